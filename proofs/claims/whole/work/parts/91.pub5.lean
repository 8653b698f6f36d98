/-! longest, fixed, print, same -/
theorem cnt_s {p : Nat → Bool} {n : Nat} {b : Bool} (h : p n = b) : cnt p (n + 1) = cnt p n + (if b = true then 1 else 0) := by rw [cnt, h]
theorem n0_sd {rs : List Rl} {n : Int} {y : List Int × Int} (hs : sd rs n = some y) : 0 ≤ n ∧ n ≤ 999999999 := by
  apply Classical.byContradiction; intro hno
  rw [sd_out (by omega)] at hs; cases hs
section
variable {d : Nat} {Q : XO → Hp → Prop} {S : SH} {I : MI} {L : ML} {R : MR} {G : MG} {A : Hp}
variable {c lo : Nat} {s : St}
theorem sp_133 {l x : Int} (h : CR S I L R G c lo s) (hf : few s) (hl : B32 l) (hx : B32 x) (hQ : CK S I L R G c lo Q (outX (rLx s l x 1 (fun rs => vLong rs s.2.1.1 x)).1) (rLx s l x 1 (fun rs => vLong rs s.2.1.1 x)).2) : XC (d + 70) 133 [.ref c, .int (w l), .int (w x)] (mk S I L R G) Q := by
  have hc := h.1.1
  have hk : t_han 133 = [] := rfl
  unfold rLx at hQ
  by_cases cl : inL l
  · rw [if_pos cl] at hQ
    obtain ⟨k, g⟩ := h.lg cl
    have p142 := @g.p142
    have p143 := @g.p143
    by_cases cx : 0 ≤ x ∧ x ≤ 1
    · rw [if_pos cx] at hQ
      have s146 := fun {d : Nat} {Q : XO → Hp → Prop} => h.in (d := d) (Q := Q) hx (y := 0) (z := 1) (by decide) (by decide) cx
      have hv := g.hK.2.1
      have hv0 := hv.1
      have hm0 : S (k + 2) = some (.inr 4) := hv.2.1.1
      have hB := h.1.2.2.1.1
      obtain ⟨b1, b2, b3, b4⟩ := h.bk
      have gb := g.b1
      have gb2 := g.b2
      have lp : ∀ (j n : Nat) (I1 : MI) (o1 o2 : Option Value), n + j = s.2.1.1 + 1 → vp (rlz s l) I I1 (k + 1) → XX (d + 70) 133 27 [some (.ref c), some (.int (w l)), some (.int (w x)), some (.ref (k + 1)), some (.int (w (lngF x (fun n => T (rlz s l) n) n).1)), some (.int (w (lngF x (fun n => T (rlz s l) n) n).2)), some (.int (w n)), o1, o2] [] (mk S I1 L R G) Q := by
        intro j
        induction j with
        | zero =>
          intro n I1 o1 o2 hn hp
          have : n = s.2.1.1 + 1 := by omega
          subst this
          have e1 : I1 (c + 3) 2 = w s.2.1.1 := by rw [hp.1 _ (by omega)]; exact b1
          have hQ' := CK.ask h (g.vp I1 hp) hQ
          rw [q_133_27]
          simp (disch := omega) only [q_133_0, q_133_1, q_133_2, q_133_5, q_133_6, q_133_7, q_133_8, q_133_9, q_133_12, q_133_13, q_133_14, q_133_17, q_133_18, q_133_19, q_133_21, q_133_22, q_133_24, q_133_25, q_133_29, q_133_30, q_133_33, q_133_36, q_133_39, q_133_40, q_133_42, q_133_45, q_133_48, q_133_51, q_133_52, q_133_55, q_133_57, q_133_60, q_133_62, q_133_63, q_133_66, q_133_68, q_133_70, q_133_73, q_133_74, q_133_77, q_133_78, q_133_81, q_133_83, q_133_85, q_133_88, q_133_89, q_133_92, q_133_93, q_133_95, q_133_97, q_133_98, q_133_101, q_133_103, q_133_106, q_133_108, q_133_110, q_133_112, q_133_114, q_133_117, q_133_120, q_133_122, q_133_e, va_rf_s, bz_0, bz_1, bz_ok, bb_ok, Nat.add_assoc, w_lt, w_add, w_sub, w_mul, w_div, em_def, w_eq, w_inT, ↓ilt_t, ↓ilt_f, ↓ieq_t, ↓ieq_f, ntT, w_b, w_ix, kx_v, kx_n, kl_n, kl_i, kl_r, kl_o, inA_i, inA_s, inA_b, inA_z, inA_l, inA_0, inA_4, inA_5, inA_6, inA_7, inA_8, inA_9, inA_10, al_0, al_1, al_2, al_4, al_5, al_98, bsP_2, bsP_3, wr_same, wr_wr, wr_ne, up_same, up_ne, Nat.reduceAdd, Int.reduceAdd, Int.reduceSub, Int.reduceMul, Int.reduceLT, Int.reduceLE, Int.reduceEq, Int.reduceNeg, Int.reduceToNat, Nat.reduceLT, Nat.reduceLeDiff, Nat.reduceEqDiff, ↓reduceIte, true_and, and_true, not_true_eq_false, not_false_eq_true, eq_self, or_true, true_or, or_false, false_or, if_true, if_false, Int.toNat_natCast, w_ite, Nat.add_zero, reduceCtorEq, ne_eq, hc, hB, e1]
          exact hQ'
        | succ j ih =>
          intro n I1 o1 o2 hn hp
          have e1 : I1 (c + 3) 2 = w s.2.1.1 := by rw [hp.1 _ (by omega)]; exact b1
          rw [q_133_27]
          simp (disch := omega) only [q_133_0, q_133_1, q_133_2, q_133_5, q_133_6, q_133_7, q_133_8, q_133_9, q_133_12, q_133_13, q_133_14, q_133_17, q_133_18, q_133_19, q_133_21, q_133_22, q_133_24, q_133_25, q_133_29, q_133_30, q_133_33, q_133_36, q_133_39, q_133_40, q_133_42, q_133_45, q_133_48, q_133_51, q_133_52, q_133_55, q_133_57, q_133_60, q_133_62, q_133_63, q_133_66, q_133_68, q_133_70, q_133_73, q_133_74, q_133_77, q_133_78, q_133_81, q_133_83, q_133_85, q_133_88, q_133_89, q_133_92, q_133_93, q_133_95, q_133_97, q_133_98, q_133_101, q_133_103, q_133_106, q_133_108, q_133_110, q_133_112, q_133_114, q_133_117, q_133_120, q_133_122, q_133_e, va_rf_s, bz_0, bz_1, bz_ok, bb_ok, Nat.add_assoc, w_lt, w_add, w_sub, w_mul, w_div, em_def, w_eq, w_inT, ↓ilt_t, ↓ilt_f, ↓ieq_t, ↓ieq_f, ntT, w_b, w_ix, kx_v, kx_n, kl_n, kl_i, kl_r, kl_o, inA_i, inA_s, inA_b, inA_z, inA_l, inA_0, inA_4, inA_5, inA_6, inA_7, inA_8, inA_9, inA_10, al_0, al_1, al_2, al_4, al_5, al_98, bsP_2, bsP_3, wr_same, wr_wr, wr_ne, up_same, up_ne, Nat.reduceAdd, Int.reduceAdd, Int.reduceSub, Int.reduceMul, Int.reduceLT, Int.reduceLE, Int.reduceEq, Int.reduceNeg, Int.reduceToNat, Nat.reduceLT, Nat.reduceLeDiff, Nat.reduceEqDiff, ↓reduceIte, true_and, and_true, not_true_eq_false, not_false_eq_true, eq_self, or_true, true_or, or_false, false_or, if_true, if_false, Int.toNat_natCast, w_ite, Nat.add_zero, reduceCtorEq, ne_eq, hc, hB, e1, hv0]
          refine sp_84 hv (g.hR.congr hp.1 hp.2.1) hp.2.2.1 hp.2.2.2.1 (by omega) (by omega) (fun I2 hp2 hk2 => ?_)
          have hb := lngF_bd (x := x) (f := fun n : Nat => T (rlz s l) n) (fun n t ht => (T_ok g.ok ht).2) n
          have hstep : ∀ o, (T (rlz s l) (n : Int)) = o → lngF x (fun n : Nat => T (rlz s l) n) (n + 1) = lngS x o n (lngF x (fun n : Nat => T (rlz s l) n) n) := fun o ho => by rw [← ho]; rfl
          cases hs : sd (rlz s l) (n : Int) with
          | none =>
            have ih' := fun o1 o2 => ih (n + 1) I2 o1 o2 (by omega) (hp.trans hp2)
            rw [hstep none (by rw [T_sd, hs]; rfl)] at ih'
            simp only [Int.natCast_add, Int.natCast_one] at ih'
            unfold lngS at ih'
            dsimp only at ih'
            simp (disch := omega) only [q_133_0, q_133_1, q_133_2, q_133_5, q_133_6, q_133_7, q_133_8, q_133_9, q_133_12, q_133_13, q_133_14, q_133_17, q_133_18, q_133_19, q_133_21, q_133_22, q_133_24, q_133_25, q_133_29, q_133_30, q_133_33, q_133_36, q_133_39, q_133_40, q_133_42, q_133_45, q_133_48, q_133_51, q_133_52, q_133_55, q_133_57, q_133_60, q_133_62, q_133_63, q_133_66, q_133_68, q_133_70, q_133_73, q_133_74, q_133_77, q_133_78, q_133_81, q_133_83, q_133_85, q_133_88, q_133_89, q_133_92, q_133_93, q_133_95, q_133_97, q_133_98, q_133_101, q_133_103, q_133_106, q_133_108, q_133_110, q_133_112, q_133_114, q_133_117, q_133_120, q_133_122, q_133_e, va_rf_s, bz_0, bz_1, bz_ok, bb_ok, Nat.add_assoc, w_lt, w_add, w_sub, w_mul, w_div, em_def, w_eq, w_inT, ↓ilt_t, ↓ilt_f, ↓ieq_t, ↓ieq_f, ntT, w_b, w_ix, kx_v, kx_n, kl_n, kl_i, kl_r, kl_o, inA_i, inA_s, inA_b, inA_z, inA_l, inA_0, inA_4, inA_5, inA_6, inA_7, inA_8, inA_9, inA_10, al_0, al_1, al_2, al_4, al_5, al_98, bsP_2, bsP_3, wr_same, wr_wr, wr_ne, up_same, up_ne, Nat.reduceAdd, Int.reduceAdd, Int.reduceSub, Int.reduceMul, Int.reduceLT, Int.reduceLE, Int.reduceEq, Int.reduceNeg, Int.reduceToNat, Nat.reduceLT, Nat.reduceLeDiff, Nat.reduceEqDiff, ↓reduceIte, true_and, and_true, not_true_eq_false, not_false_eq_true, eq_self, or_true, true_or, or_false, false_or, if_true, if_false, Int.toNat_natCast, w_ite, Nat.add_zero, reduceCtorEq, ne_eq, Option.isSome]
            exact ih' _ _
          | some y =>
            have hT : T (rlz s l) (n : Int) = some y.1 := by rw [T_sd, hs]; rfl
            have hsd : Sd I2 (k + 1) n y.1 := (hk2 (by omega) (by omega)).Sd hp2.2.2.1 g.ok (by omega) hT
            have s32 := fun {d : Nat} {Q : XO → Hp → Prop} => sp_32t (d := d) (Q := Q) (L := L) (R := R) (G := G) hv.2.1 (n := (n : Int)) (by omega) (by omega) hsd
            simp only [Nat.add_assoc, Nat.reduceAdd] at s32
            have hy := hsd.2.2.1
            have ih' := fun o1 o2 => ih (n + 1) I2 o1 o2 (by omega) (hp.trans hp2)
            rw [hstep _ hT] at ih'
            simp only [Int.natCast_add, Int.natCast_one] at ih'
            unfold lngS at ih'
            dsimp only at ih'
            generalize lngF x (fun n : Nat => T (rlz s l) n) n = σ at hb ih' ⊢
            obtain ⟨z1, z2⟩ := σ
            dsimp only at hb ih' ⊢
            by_cases d0 : x = 0
            · simp only [if_pos d0] at ih'
              by_cases d2 : z2 < y.1.length
              · rw [if_pos (Or.inr d2)] at ih'
                by_cases d1 : z1 = -1
                · simp (disch := omega) only [q_133_0, q_133_1, q_133_2, q_133_5, q_133_6, q_133_7, q_133_8, q_133_9, q_133_12, q_133_13, q_133_14, q_133_17, q_133_18, q_133_19, q_133_21, q_133_22, q_133_24, q_133_25, q_133_29, q_133_30, q_133_33, q_133_36, q_133_39, q_133_40, q_133_42, q_133_45, q_133_48, q_133_51, q_133_52, q_133_55, q_133_57, q_133_60, q_133_62, q_133_63, q_133_66, q_133_68, q_133_70, q_133_73, q_133_74, q_133_77, q_133_78, q_133_81, q_133_83, q_133_85, q_133_88, q_133_89, q_133_92, q_133_93, q_133_95, q_133_97, q_133_98, q_133_101, q_133_103, q_133_106, q_133_108, q_133_110, q_133_112, q_133_114, q_133_117, q_133_120, q_133_122, q_133_e, va_rf_s, bz_0, bz_1, bz_ok, bb_ok, Nat.add_assoc, w_lt, w_add, w_sub, w_mul, w_div, em_def, w_eq, w_inT, ↓ilt_t, ↓ilt_f, ↓ieq_t, ↓ieq_f, ntT, w_b, w_ix, kx_v, kx_n, kl_n, kl_i, kl_r, kl_o, inA_i, inA_s, inA_b, inA_z, inA_l, inA_0, inA_4, inA_5, inA_6, inA_7, inA_8, inA_9, inA_10, al_0, al_1, al_2, al_4, al_5, al_98, bsP_2, bsP_3, wr_same, wr_wr, wr_ne, up_same, up_ne, Nat.reduceAdd, Int.reduceAdd, Int.reduceSub, Int.reduceMul, Int.reduceLT, Int.reduceLE, Int.reduceEq, Int.reduceNeg, Int.reduceToNat, Nat.reduceLT, Nat.reduceLeDiff, Nat.reduceEqDiff, ↓reduceIte, true_and, and_true, not_true_eq_false, not_false_eq_true, eq_self, or_true, true_or, or_false, false_or, if_true, if_false, Int.toNat_natCast, w_ite, Nat.add_zero, reduceCtorEq, ne_eq, Option.isSome, hv0, hm0, s32]
                  exact ih' _ _
                · simp (disch := omega) only [q_133_0, q_133_1, q_133_2, q_133_5, q_133_6, q_133_7, q_133_8, q_133_9, q_133_12, q_133_13, q_133_14, q_133_17, q_133_18, q_133_19, q_133_21, q_133_22, q_133_24, q_133_25, q_133_29, q_133_30, q_133_33, q_133_36, q_133_39, q_133_40, q_133_42, q_133_45, q_133_48, q_133_51, q_133_52, q_133_55, q_133_57, q_133_60, q_133_62, q_133_63, q_133_66, q_133_68, q_133_70, q_133_73, q_133_74, q_133_77, q_133_78, q_133_81, q_133_83, q_133_85, q_133_88, q_133_89, q_133_92, q_133_93, q_133_95, q_133_97, q_133_98, q_133_101, q_133_103, q_133_106, q_133_108, q_133_110, q_133_112, q_133_114, q_133_117, q_133_120, q_133_122, q_133_e, va_rf_s, bz_0, bz_1, bz_ok, bb_ok, Nat.add_assoc, w_lt, w_add, w_sub, w_mul, w_div, em_def, w_eq, w_inT, ↓ilt_t, ↓ilt_f, ↓ieq_t, ↓ieq_f, ntT, w_b, w_ix, kx_v, kx_n, kl_n, kl_i, kl_r, kl_o, inA_i, inA_s, inA_b, inA_z, inA_l, inA_0, inA_4, inA_5, inA_6, inA_7, inA_8, inA_9, inA_10, al_0, al_1, al_2, al_4, al_5, al_98, bsP_2, bsP_3, wr_same, wr_wr, wr_ne, up_same, up_ne, Nat.reduceAdd, Int.reduceAdd, Int.reduceSub, Int.reduceMul, Int.reduceLT, Int.reduceLE, Int.reduceEq, Int.reduceNeg, Int.reduceToNat, Nat.reduceLT, Nat.reduceLeDiff, Nat.reduceEqDiff, ↓reduceIte, true_and, and_true, not_true_eq_false, not_false_eq_true, eq_self, or_true, true_or, or_false, false_or, if_true, if_false, Int.toNat_natCast, w_ite, Nat.add_zero, reduceCtorEq, ne_eq, Option.isSome, hv0, hm0, s32]
                  exact ih' _ _
              · by_cases d1 : z1 = -1
                · rw [if_pos (Or.inl d1)] at ih'
                  simp (disch := omega) only [q_133_0, q_133_1, q_133_2, q_133_5, q_133_6, q_133_7, q_133_8, q_133_9, q_133_12, q_133_13, q_133_14, q_133_17, q_133_18, q_133_19, q_133_21, q_133_22, q_133_24, q_133_25, q_133_29, q_133_30, q_133_33, q_133_36, q_133_39, q_133_40, q_133_42, q_133_45, q_133_48, q_133_51, q_133_52, q_133_55, q_133_57, q_133_60, q_133_62, q_133_63, q_133_66, q_133_68, q_133_70, q_133_73, q_133_74, q_133_77, q_133_78, q_133_81, q_133_83, q_133_85, q_133_88, q_133_89, q_133_92, q_133_93, q_133_95, q_133_97, q_133_98, q_133_101, q_133_103, q_133_106, q_133_108, q_133_110, q_133_112, q_133_114, q_133_117, q_133_120, q_133_122, q_133_e, va_rf_s, bz_0, bz_1, bz_ok, bb_ok, Nat.add_assoc, w_lt, w_add, w_sub, w_mul, w_div, em_def, w_eq, w_inT, ↓ilt_t, ↓ilt_f, ↓ieq_t, ↓ieq_f, ntT, w_b, w_ix, kx_v, kx_n, kl_n, kl_i, kl_r, kl_o, inA_i, inA_s, inA_b, inA_z, inA_l, inA_0, inA_4, inA_5, inA_6, inA_7, inA_8, inA_9, inA_10, al_0, al_1, al_2, al_4, al_5, al_98, bsP_2, bsP_3, wr_same, wr_wr, wr_ne, up_same, up_ne, Nat.reduceAdd, Int.reduceAdd, Int.reduceSub, Int.reduceMul, Int.reduceLT, Int.reduceLE, Int.reduceEq, Int.reduceNeg, Int.reduceToNat, Nat.reduceLT, Nat.reduceLeDiff, Nat.reduceEqDiff, ↓reduceIte, true_and, and_true, not_true_eq_false, not_false_eq_true, eq_self, or_true, true_or, or_false, false_or, if_true, if_false, Int.toNat_natCast, w_ite, Nat.add_zero, reduceCtorEq, ne_eq, Option.isSome, hv0, hm0, s32]
                  exact ih' _ _
                · rw [if_neg (by omega)] at ih'
                  simp (disch := omega) only [q_133_0, q_133_1, q_133_2, q_133_5, q_133_6, q_133_7, q_133_8, q_133_9, q_133_12, q_133_13, q_133_14, q_133_17, q_133_18, q_133_19, q_133_21, q_133_22, q_133_24, q_133_25, q_133_29, q_133_30, q_133_33, q_133_36, q_133_39, q_133_40, q_133_42, q_133_45, q_133_48, q_133_51, q_133_52, q_133_55, q_133_57, q_133_60, q_133_62, q_133_63, q_133_66, q_133_68, q_133_70, q_133_73, q_133_74, q_133_77, q_133_78, q_133_81, q_133_83, q_133_85, q_133_88, q_133_89, q_133_92, q_133_93, q_133_95, q_133_97, q_133_98, q_133_101, q_133_103, q_133_106, q_133_108, q_133_110, q_133_112, q_133_114, q_133_117, q_133_120, q_133_122, q_133_e, va_rf_s, bz_0, bz_1, bz_ok, bb_ok, Nat.add_assoc, w_lt, w_add, w_sub, w_mul, w_div, em_def, w_eq, w_inT, ↓ilt_t, ↓ilt_f, ↓ieq_t, ↓ieq_f, ntT, w_b, w_ix, kx_v, kx_n, kl_n, kl_i, kl_r, kl_o, inA_i, inA_s, inA_b, inA_z, inA_l, inA_0, inA_4, inA_5, inA_6, inA_7, inA_8, inA_9, inA_10, al_0, al_1, al_2, al_4, al_5, al_98, bsP_2, bsP_3, wr_same, wr_wr, wr_ne, up_same, up_ne, Nat.reduceAdd, Int.reduceAdd, Int.reduceSub, Int.reduceMul, Int.reduceLT, Int.reduceLE, Int.reduceEq, Int.reduceNeg, Int.reduceToNat, Nat.reduceLT, Nat.reduceLeDiff, Nat.reduceEqDiff, ↓reduceIte, true_and, and_true, not_true_eq_false, not_false_eq_true, eq_self, or_true, true_or, or_false, false_or, if_true, if_false, Int.toNat_natCast, w_ite, Nat.add_zero, reduceCtorEq, ne_eq, Option.isSome, hv0, hm0, s32]
                  exact ih' _ _
            · simp only [if_neg d0] at ih'
              by_cases d2 : (y.1.length : Int) < z2
              · rw [if_pos (Or.inr d2)] at ih'
                by_cases d1 : z1 = -1
                · simp (disch := omega) only [q_133_0, q_133_1, q_133_2, q_133_5, q_133_6, q_133_7, q_133_8, q_133_9, q_133_12, q_133_13, q_133_14, q_133_17, q_133_18, q_133_19, q_133_21, q_133_22, q_133_24, q_133_25, q_133_29, q_133_30, q_133_33, q_133_36, q_133_39, q_133_40, q_133_42, q_133_45, q_133_48, q_133_51, q_133_52, q_133_55, q_133_57, q_133_60, q_133_62, q_133_63, q_133_66, q_133_68, q_133_70, q_133_73, q_133_74, q_133_77, q_133_78, q_133_81, q_133_83, q_133_85, q_133_88, q_133_89, q_133_92, q_133_93, q_133_95, q_133_97, q_133_98, q_133_101, q_133_103, q_133_106, q_133_108, q_133_110, q_133_112, q_133_114, q_133_117, q_133_120, q_133_122, q_133_e, va_rf_s, bz_0, bz_1, bz_ok, bb_ok, Nat.add_assoc, w_lt, w_add, w_sub, w_mul, w_div, em_def, w_eq, w_inT, ↓ilt_t, ↓ilt_f, ↓ieq_t, ↓ieq_f, ntT, w_b, w_ix, kx_v, kx_n, kl_n, kl_i, kl_r, kl_o, inA_i, inA_s, inA_b, inA_z, inA_l, inA_0, inA_4, inA_5, inA_6, inA_7, inA_8, inA_9, inA_10, al_0, al_1, al_2, al_4, al_5, al_98, bsP_2, bsP_3, wr_same, wr_wr, wr_ne, up_same, up_ne, Nat.reduceAdd, Int.reduceAdd, Int.reduceSub, Int.reduceMul, Int.reduceLT, Int.reduceLE, Int.reduceEq, Int.reduceNeg, Int.reduceToNat, Nat.reduceLT, Nat.reduceLeDiff, Nat.reduceEqDiff, ↓reduceIte, true_and, and_true, not_true_eq_false, not_false_eq_true, eq_self, or_true, true_or, or_false, false_or, if_true, if_false, Int.toNat_natCast, w_ite, Nat.add_zero, reduceCtorEq, ne_eq, Option.isSome, hv0, hm0, s32]
                  exact ih' _ _
                · simp (disch := omega) only [q_133_0, q_133_1, q_133_2, q_133_5, q_133_6, q_133_7, q_133_8, q_133_9, q_133_12, q_133_13, q_133_14, q_133_17, q_133_18, q_133_19, q_133_21, q_133_22, q_133_24, q_133_25, q_133_29, q_133_30, q_133_33, q_133_36, q_133_39, q_133_40, q_133_42, q_133_45, q_133_48, q_133_51, q_133_52, q_133_55, q_133_57, q_133_60, q_133_62, q_133_63, q_133_66, q_133_68, q_133_70, q_133_73, q_133_74, q_133_77, q_133_78, q_133_81, q_133_83, q_133_85, q_133_88, q_133_89, q_133_92, q_133_93, q_133_95, q_133_97, q_133_98, q_133_101, q_133_103, q_133_106, q_133_108, q_133_110, q_133_112, q_133_114, q_133_117, q_133_120, q_133_122, q_133_e, va_rf_s, bz_0, bz_1, bz_ok, bb_ok, Nat.add_assoc, w_lt, w_add, w_sub, w_mul, w_div, em_def, w_eq, w_inT, ↓ilt_t, ↓ilt_f, ↓ieq_t, ↓ieq_f, ntT, w_b, w_ix, kx_v, kx_n, kl_n, kl_i, kl_r, kl_o, inA_i, inA_s, inA_b, inA_z, inA_l, inA_0, inA_4, inA_5, inA_6, inA_7, inA_8, inA_9, inA_10, al_0, al_1, al_2, al_4, al_5, al_98, bsP_2, bsP_3, wr_same, wr_wr, wr_ne, up_same, up_ne, Nat.reduceAdd, Int.reduceAdd, Int.reduceSub, Int.reduceMul, Int.reduceLT, Int.reduceLE, Int.reduceEq, Int.reduceNeg, Int.reduceToNat, Nat.reduceLT, Nat.reduceLeDiff, Nat.reduceEqDiff, ↓reduceIte, true_and, and_true, not_true_eq_false, not_false_eq_true, eq_self, or_true, true_or, or_false, false_or, if_true, if_false, Int.toNat_natCast, w_ite, Nat.add_zero, reduceCtorEq, ne_eq, Option.isSome, hv0, hm0, s32]
                  exact ih' _ _
              · by_cases d1 : z1 = -1
                · rw [if_pos (Or.inl d1)] at ih'
                  simp (disch := omega) only [q_133_0, q_133_1, q_133_2, q_133_5, q_133_6, q_133_7, q_133_8, q_133_9, q_133_12, q_133_13, q_133_14, q_133_17, q_133_18, q_133_19, q_133_21, q_133_22, q_133_24, q_133_25, q_133_29, q_133_30, q_133_33, q_133_36, q_133_39, q_133_40, q_133_42, q_133_45, q_133_48, q_133_51, q_133_52, q_133_55, q_133_57, q_133_60, q_133_62, q_133_63, q_133_66, q_133_68, q_133_70, q_133_73, q_133_74, q_133_77, q_133_78, q_133_81, q_133_83, q_133_85, q_133_88, q_133_89, q_133_92, q_133_93, q_133_95, q_133_97, q_133_98, q_133_101, q_133_103, q_133_106, q_133_108, q_133_110, q_133_112, q_133_114, q_133_117, q_133_120, q_133_122, q_133_e, va_rf_s, bz_0, bz_1, bz_ok, bb_ok, Nat.add_assoc, w_lt, w_add, w_sub, w_mul, w_div, em_def, w_eq, w_inT, ↓ilt_t, ↓ilt_f, ↓ieq_t, ↓ieq_f, ntT, w_b, w_ix, kx_v, kx_n, kl_n, kl_i, kl_r, kl_o, inA_i, inA_s, inA_b, inA_z, inA_l, inA_0, inA_4, inA_5, inA_6, inA_7, inA_8, inA_9, inA_10, al_0, al_1, al_2, al_4, al_5, al_98, bsP_2, bsP_3, wr_same, wr_wr, wr_ne, up_same, up_ne, Nat.reduceAdd, Int.reduceAdd, Int.reduceSub, Int.reduceMul, Int.reduceLT, Int.reduceLE, Int.reduceEq, Int.reduceNeg, Int.reduceToNat, Nat.reduceLT, Nat.reduceLeDiff, Nat.reduceEqDiff, ↓reduceIte, true_and, and_true, not_true_eq_false, not_false_eq_true, eq_self, or_true, true_or, or_false, false_or, if_true, if_false, Int.toNat_natCast, w_ite, Nat.add_zero, reduceCtorEq, ne_eq, Option.isSome, hv0, hm0, s32]
                  exact ih' _ _
                · rw [if_neg (by omega)] at ih'
                  simp (disch := omega) only [q_133_0, q_133_1, q_133_2, q_133_5, q_133_6, q_133_7, q_133_8, q_133_9, q_133_12, q_133_13, q_133_14, q_133_17, q_133_18, q_133_19, q_133_21, q_133_22, q_133_24, q_133_25, q_133_29, q_133_30, q_133_33, q_133_36, q_133_39, q_133_40, q_133_42, q_133_45, q_133_48, q_133_51, q_133_52, q_133_55, q_133_57, q_133_60, q_133_62, q_133_63, q_133_66, q_133_68, q_133_70, q_133_73, q_133_74, q_133_77, q_133_78, q_133_81, q_133_83, q_133_85, q_133_88, q_133_89, q_133_92, q_133_93, q_133_95, q_133_97, q_133_98, q_133_101, q_133_103, q_133_106, q_133_108, q_133_110, q_133_112, q_133_114, q_133_117, q_133_120, q_133_122, q_133_e, va_rf_s, bz_0, bz_1, bz_ok, bb_ok, Nat.add_assoc, w_lt, w_add, w_sub, w_mul, w_div, em_def, w_eq, w_inT, ↓ilt_t, ↓ilt_f, ↓ieq_t, ↓ieq_f, ntT, w_b, w_ix, kx_v, kx_n, kl_n, kl_i, kl_r, kl_o, inA_i, inA_s, inA_b, inA_z, inA_l, inA_0, inA_4, inA_5, inA_6, inA_7, inA_8, inA_9, inA_10, al_0, al_1, al_2, al_4, al_5, al_98, bsP_2, bsP_3, wr_same, wr_wr, wr_ne, up_same, up_ne, Nat.reduceAdd, Int.reduceAdd, Int.reduceSub, Int.reduceMul, Int.reduceLT, Int.reduceLE, Int.reduceEq, Int.reduceNeg, Int.reduceToNat, Nat.reduceLT, Nat.reduceLeDiff, Nat.reduceEqDiff, ↓reduceIte, true_and, and_true, not_true_eq_false, not_false_eq_true, eq_self, or_true, true_or, or_false, false_or, if_true, if_false, Int.toNat_natCast, w_ite, Nat.add_zero, reduceCtorEq, ne_eq, Option.isSome, hv0, hm0, s32]
                  exact ih' _ _
      simp (disch := omega) only [q_133_0, q_133_1, q_133_2, q_133_5, q_133_6, q_133_7, q_133_8, q_133_9, q_133_12, q_133_13, q_133_14, q_133_17, q_133_18, q_133_19, q_133_21, q_133_22, q_133_24, q_133_25, q_133_29, q_133_30, q_133_33, q_133_36, q_133_39, q_133_40, q_133_42, q_133_45, q_133_48, q_133_51, q_133_52, q_133_55, q_133_57, q_133_60, q_133_62, q_133_63, q_133_66, q_133_68, q_133_70, q_133_73, q_133_74, q_133_77, q_133_78, q_133_81, q_133_83, q_133_85, q_133_88, q_133_89, q_133_92, q_133_93, q_133_95, q_133_97, q_133_98, q_133_101, q_133_103, q_133_106, q_133_108, q_133_110, q_133_112, q_133_114, q_133_117, q_133_120, q_133_122, q_133_e, va_rf_s, bz_0, bz_1, bz_ok, bb_ok, Nat.add_assoc, w_lt, w_add, w_sub, w_mul, w_div, em_def, w_eq, w_inT, ↓ilt_t, ↓ilt_f, ↓ieq_t, ↓ieq_f, ntT, w_b, w_ix, kx_v, kx_n, kl_n, kl_i, kl_r, kl_o, inA_i, inA_s, inA_b, inA_z, inA_l, inA_0, inA_4, inA_5, inA_6, inA_7, inA_8, inA_9, inA_10, al_0, al_1, al_2, al_4, al_5, al_98, bsP_2, bsP_3, wr_same, wr_wr, wr_ne, up_same, up_ne, Nat.reduceAdd, Int.reduceAdd, Int.reduceSub, Int.reduceMul, Int.reduceLT, Int.reduceLE, Int.reduceEq, Int.reduceNeg, Int.reduceToNat, Nat.reduceLT, Nat.reduceLeDiff, Nat.reduceEqDiff, ↓reduceIte, true_and, and_true, not_true_eq_false, not_false_eq_true, eq_self, or_true, true_or, or_false, false_or, if_true, if_false, Int.toNat_natCast, w_ite, Nat.add_zero, reduceCtorEq, ne_eq, hc, p143, s146, p142]
      exact lp (s.2.1.1 + 1) 0 I _ _ (by omega) (vp.refl g.hM g.hU)
    · rw [if_neg cx] at hQ
      have s146 := fun {d : Nat} {Q : XO → Hp → Prop} => h.noI (d := d) (Q := Q) hx (y := 0) (z := 1) (by decide) (by decide) cx
      simp (disch := omega) only [q_133_0, q_133_1, q_133_2, q_133_5, q_133_6, q_133_7, q_133_8, q_133_9, q_133_12, q_133_13, q_133_14, q_133_17, q_133_18, q_133_19, q_133_21, q_133_22, q_133_24, q_133_25, q_133_29, q_133_30, q_133_33, q_133_36, q_133_39, q_133_40, q_133_42, q_133_45, q_133_48, q_133_51, q_133_52, q_133_55, q_133_57, q_133_60, q_133_62, q_133_63, q_133_66, q_133_68, q_133_70, q_133_73, q_133_74, q_133_77, q_133_78, q_133_81, q_133_83, q_133_85, q_133_88, q_133_89, q_133_92, q_133_93, q_133_95, q_133_97, q_133_98, q_133_101, q_133_103, q_133_106, q_133_108, q_133_110, q_133_112, q_133_114, q_133_117, q_133_120, q_133_122, q_133_e, va_rf_s, bz_0, bz_1, bz_ok, bb_ok, Nat.add_assoc, w_lt, w_add, w_sub, w_mul, w_div, em_def, w_eq, w_inT, ↓ilt_t, ↓ilt_f, ↓ieq_t, ↓ieq_f, ntT, w_b, w_ix, kx_v, kx_n, kl_n, kl_i, kl_r, kl_o, inA_i, inA_s, inA_b, inA_z, inA_l, inA_0, inA_4, inA_5, inA_6, inA_7, inA_8, inA_9, inA_10, al_0, al_1, al_2, al_4, al_5, al_98, bsP_2, bsP_3, wr_same, wr_wr, wr_ne, up_same, up_ne, Nat.reduceAdd, Int.reduceAdd, Int.reduceSub, Int.reduceMul, Int.reduceLT, Int.reduceLE, Int.reduceEq, Int.reduceNeg, Int.reduceToNat, Nat.reduceLT, Nat.reduceLeDiff, Nat.reduceEqDiff, ↓reduceIte, true_and, and_true, not_true_eq_false, not_false_eq_true, eq_self, or_true, true_or, or_false, false_or, if_true, if_false, Int.toNat_natCast, w_ite, Nat.add_zero, reduceCtorEq, ne_eq, hc, p143, s146, kx_t hk]
      exact CK.wro h (Rem.refl h) hf.2 hQ
  · rw [if_neg cl] at hQ
    have s143 := fun {d : Nat} {Q : XO → Hp → Prop} => h.noL (d := d) (Q := Q) hl cl
    simp (disch := omega) only [q_133_0, q_133_1, q_133_2, q_133_5, q_133_6, q_133_7, q_133_8, q_133_9, q_133_12, q_133_13, q_133_14, q_133_17, q_133_18, q_133_19, q_133_21, q_133_22, q_133_24, q_133_25, q_133_29, q_133_30, q_133_33, q_133_36, q_133_39, q_133_40, q_133_42, q_133_45, q_133_48, q_133_51, q_133_52, q_133_55, q_133_57, q_133_60, q_133_62, q_133_63, q_133_66, q_133_68, q_133_70, q_133_73, q_133_74, q_133_77, q_133_78, q_133_81, q_133_83, q_133_85, q_133_88, q_133_89, q_133_92, q_133_93, q_133_95, q_133_97, q_133_98, q_133_101, q_133_103, q_133_106, q_133_108, q_133_110, q_133_112, q_133_114, q_133_117, q_133_120, q_133_122, q_133_e, va_rf_s, bz_0, bz_1, bz_ok, bb_ok, Nat.add_assoc, w_lt, w_add, w_sub, w_mul, w_div, em_def, w_eq, w_inT, ↓ilt_t, ↓ilt_f, ↓ieq_t, ↓ieq_f, ntT, w_b, w_ix, kx_v, kx_n, kl_n, kl_i, kl_r, kl_o, inA_i, inA_s, inA_b, inA_z, inA_l, inA_0, inA_4, inA_5, inA_6, inA_7, inA_8, inA_9, inA_10, al_0, al_1, al_2, al_4, al_5, al_98, bsP_2, bsP_3, wr_same, wr_wr, wr_ne, up_same, up_ne, Nat.reduceAdd, Int.reduceAdd, Int.reduceSub, Int.reduceMul, Int.reduceLT, Int.reduceLE, Int.reduceEq, Int.reduceNeg, Int.reduceToNat, Nat.reduceLT, Nat.reduceLeDiff, Nat.reduceEqDiff, ↓reduceIte, true_and, and_true, not_true_eq_false, not_false_eq_true, eq_self, or_true, true_or, or_false, false_or, if_true, if_false, Int.toNat_natCast, w_ite, Nat.add_zero, reduceCtorEq, ne_eq, hc, s143, kx_t hk]
    exact CK.mis h (Rem.refl h) hf.1 hQ
theorem sp_136 {l : Int} (h : CR S I L R G c lo s) (hf : few s) (hl : B32 l) (hQ : CK S I L R G c lo Q (outX (rLg s l (fun rs => vFixed rs s.2.1.1)).1) (rLg s l (fun rs => vFixed rs s.2.1.1)).2) : XC (d + 70) 136 [.ref c, .int (w l)] (mk S I L R G) Q := by
  have hc := h.1.1
  have hk : t_han 136 = [] := rfl
  unfold rLg at hQ
  by_cases cl : inL l
  · rw [if_pos cl] at hQ
    obtain ⟨k, g⟩ := h.lg cl
    have p142 := @g.p142
    have p143 := @g.p143
    have hv := g.hK.2.1
    have hv0 := hv.1
    have hm0 : S (k + 2) = some (.inr 4) := hv.2.1.1
    have hB := h.1.2.2.1.1
    obtain ⟨b1, b2, b3, b4⟩ := h.bk
    have gb := g.b1
    have gb2 := g.b2
    have lp : ∀ (j n : Nat) (I1 : MI), n + j = s.2.1.1 + 1 → vp (rlz s l) I I1 (k + 1) → XX (d + 70) 136 16 [some (.ref c), some (.int (w l)), some (.ref (k + 1)), some (.int (w (cnt (fun n => match T (rlz s l) n with | none => false | some t => decide (nlet t = n)) n))), some (.int (w n))] [] (mk S I1 L R G) Q := by
      intro j
      induction j with
      | zero =>
        intro n I1 hn hp
        have : n = s.2.1.1 + 1 := by omega
        subst this
        have e1 : I1 (c + 3) 2 = w s.2.1.1 := by rw [hp.1 _ (by omega)]; exact b1
        have hQ' := CK.ask h (g.vp I1 hp) hQ
        rw [q_136_16]
        simp (disch := omega) only [q_136_0, q_136_1, q_136_2, q_136_5, q_136_6, q_136_7, q_136_10, q_136_11, q_136_12, q_136_13, q_136_14, q_136_18, q_136_19, q_136_22, q_136_25, q_136_28, q_136_29, q_136_31, q_136_34, q_136_37, q_136_38, q_136_41, q_136_43, q_136_46, q_136_48, q_136_51, q_136_54, q_136_57, q_136_60, q_136_61, q_136_e, va_rf_s, bz_0, bz_1, bz_ok, bb_ok, Nat.add_assoc, w_lt, w_add, w_sub, w_mul, w_div, em_def, w_eq, w_inT, ↓ilt_t, ↓ilt_f, ↓ieq_t, ↓ieq_f, ntT, w_b, w_ix, kx_v, kx_n, kl_n, kl_i, kl_r, kl_o, inA_i, inA_s, inA_b, inA_z, inA_l, inA_0, inA_4, inA_5, inA_6, inA_7, inA_8, inA_9, inA_10, al_0, al_1, al_2, al_4, al_5, al_98, bsP_2, bsP_3, wr_same, wr_wr, wr_ne, up_same, up_ne, Nat.reduceAdd, Int.reduceAdd, Int.reduceSub, Int.reduceMul, Int.reduceLT, Int.reduceLE, Int.reduceEq, Int.reduceNeg, Int.reduceToNat, Nat.reduceLT, Nat.reduceLeDiff, Nat.reduceEqDiff, ↓reduceIte, true_and, and_true, not_true_eq_false, not_false_eq_true, eq_self, or_true, true_or, or_false, false_or, if_true, if_false, Int.toNat_natCast, w_ite, Nat.add_zero, reduceCtorEq, ne_eq, hc, hB, e1]
        exact hQ'
      | succ j ih =>
        intro n I1 hn hp
        have e1 : I1 (c + 3) 2 = w s.2.1.1 := by rw [hp.1 _ (by omega)]; exact b1
        have hcn := cnt_le (fun n => match T (rlz s l) n with | none => false | some t => decide (nlet t = n)) n
        rw [q_136_16]
        simp (disch := omega) only [q_136_0, q_136_1, q_136_2, q_136_5, q_136_6, q_136_7, q_136_10, q_136_11, q_136_12, q_136_13, q_136_14, q_136_18, q_136_19, q_136_22, q_136_25, q_136_28, q_136_29, q_136_31, q_136_34, q_136_37, q_136_38, q_136_41, q_136_43, q_136_46, q_136_48, q_136_51, q_136_54, q_136_57, q_136_60, q_136_61, q_136_e, va_rf_s, bz_0, bz_1, bz_ok, bb_ok, Nat.add_assoc, w_lt, w_add, w_sub, w_mul, w_div, em_def, w_eq, w_inT, ↓ilt_t, ↓ilt_f, ↓ieq_t, ↓ieq_f, ntT, w_b, w_ix, kx_v, kx_n, kl_n, kl_i, kl_r, kl_o, inA_i, inA_s, inA_b, inA_z, inA_l, inA_0, inA_4, inA_5, inA_6, inA_7, inA_8, inA_9, inA_10, al_0, al_1, al_2, al_4, al_5, al_98, bsP_2, bsP_3, wr_same, wr_wr, wr_ne, up_same, up_ne, Nat.reduceAdd, Int.reduceAdd, Int.reduceSub, Int.reduceMul, Int.reduceLT, Int.reduceLE, Int.reduceEq, Int.reduceNeg, Int.reduceToNat, Nat.reduceLT, Nat.reduceLeDiff, Nat.reduceEqDiff, ↓reduceIte, true_and, and_true, not_true_eq_false, not_false_eq_true, eq_self, or_true, true_or, or_false, false_or, if_true, if_false, Int.toNat_natCast, w_ite, Nat.add_zero, reduceCtorEq, ne_eq, hc, hB, e1, hv0]
        refine sp_84 hv (g.hR.congr hp.1 hp.2.1) hp.2.2.1 hp.2.2.2.1 (by omega) (by omega) (fun I2 hp2 hk2 => ?_)
        have ih' := ih (n + 1) I2 (by omega) (hp.trans hp2)
        have hst : ∀ b, (match T (rlz s l) (n : Int) with | none => false | some t => decide (nlet t = (n : Int))) = b → cnt (fun n : Nat => match T (rlz s l) n with | none => false | some t => decide (nlet t = n)) (n + 1) = cnt (fun n : Nat => match T (rlz s l) n with | none => false | some t => decide (nlet t = n)) n + (if b = true then 1 else 0) := fun b hb => cnt_s hb
        cases hs : sd (rlz s l) (n : Int) with
        | none =>
          rw [hst false (by rw [show T (rlz s l) (n : Int) = none by rw [T_sd, hs]; rfl])] at ih'
          simp only [Int.natCast_add, Int.natCast_one, Bool.false_eq_true, if_false, Nat.add_zero] at ih'
          simp (disch := omega) only [q_136_0, q_136_1, q_136_2, q_136_5, q_136_6, q_136_7, q_136_10, q_136_11, q_136_12, q_136_13, q_136_14, q_136_18, q_136_19, q_136_22, q_136_25, q_136_28, q_136_29, q_136_31, q_136_34, q_136_37, q_136_38, q_136_41, q_136_43, q_136_46, q_136_48, q_136_51, q_136_54, q_136_57, q_136_60, q_136_61, q_136_e, va_rf_s, bz_0, bz_1, bz_ok, bb_ok, Nat.add_assoc, w_lt, w_add, w_sub, w_mul, w_div, em_def, w_eq, w_inT, ↓ilt_t, ↓ilt_f, ↓ieq_t, ↓ieq_f, ntT, w_b, w_ix, kx_v, kx_n, kl_n, kl_i, kl_r, kl_o, inA_i, inA_s, inA_b, inA_z, inA_l, inA_0, inA_4, inA_5, inA_6, inA_7, inA_8, inA_9, inA_10, al_0, al_1, al_2, al_4, al_5, al_98, bsP_2, bsP_3, wr_same, wr_wr, wr_ne, up_same, up_ne, Nat.reduceAdd, Int.reduceAdd, Int.reduceSub, Int.reduceMul, Int.reduceLT, Int.reduceLE, Int.reduceEq, Int.reduceNeg, Int.reduceToNat, Nat.reduceLT, Nat.reduceLeDiff, Nat.reduceEqDiff, ↓reduceIte, true_and, and_true, not_true_eq_false, not_false_eq_true, eq_self, or_true, true_or, or_false, false_or, if_true, if_false, Int.toNat_natCast, w_ite, Nat.add_zero, reduceCtorEq, ne_eq, Option.isSome]
          exact ih'
        | some y =>
          have hT : T (rlz s l) (n : Int) = some y.1 := by rw [T_sd, hs]; rfl
          have hsd : Sd I2 (k + 1) n y.1 := (hk2 (by omega) (by omega)).Sd hp2.2.2.1 g.ok (by omega) hT
          have s38 := fun {d : Nat} {Q : XO → Hp → Prop} => sp_38 (d := d) (Q := Q) (L := L) (R := R) (G := G) hv.2.1 (n := (n : Int)) (by omega) (by omega) hsd
          simp only [Nat.add_assoc, Nat.reduceAdd] at s38
          have hy := nlet_bd y.1
          have hy2 := hsd.2.2.1
          by_cases d0 : nlet y.1 = n
          · rw [hst true (by rw [hT]; exact decide_eq_true d0)] at ih'
            simp only [Int.natCast_add, Int.natCast_one, if_true] at ih'
            simp (disch := omega) only [q_136_0, q_136_1, q_136_2, q_136_5, q_136_6, q_136_7, q_136_10, q_136_11, q_136_12, q_136_13, q_136_14, q_136_18, q_136_19, q_136_22, q_136_25, q_136_28, q_136_29, q_136_31, q_136_34, q_136_37, q_136_38, q_136_41, q_136_43, q_136_46, q_136_48, q_136_51, q_136_54, q_136_57, q_136_60, q_136_61, q_136_e, va_rf_s, bz_0, bz_1, bz_ok, bb_ok, Nat.add_assoc, w_lt, w_add, w_sub, w_mul, w_div, em_def, w_eq, w_inT, ↓ilt_t, ↓ilt_f, ↓ieq_t, ↓ieq_f, ntT, w_b, w_ix, kx_v, kx_n, kl_n, kl_i, kl_r, kl_o, inA_i, inA_s, inA_b, inA_z, inA_l, inA_0, inA_4, inA_5, inA_6, inA_7, inA_8, inA_9, inA_10, al_0, al_1, al_2, al_4, al_5, al_98, bsP_2, bsP_3, wr_same, wr_wr, wr_ne, up_same, up_ne, Nat.reduceAdd, Int.reduceAdd, Int.reduceSub, Int.reduceMul, Int.reduceLT, Int.reduceLE, Int.reduceEq, Int.reduceNeg, Int.reduceToNat, Nat.reduceLT, Nat.reduceLeDiff, Nat.reduceEqDiff, ↓reduceIte, true_and, and_true, not_true_eq_false, not_false_eq_true, eq_self, or_true, true_or, or_false, false_or, if_true, if_false, Int.toNat_natCast, w_ite, Nat.add_zero, reduceCtorEq, ne_eq, Option.isSome, hv0, hm0, s38]
            exact ih'
          · rw [hst false (by rw [hT]; exact decide_eq_false d0)] at ih'
            simp only [Int.natCast_add, Int.natCast_one, Bool.false_eq_true, if_false, Nat.add_zero] at ih'
            simp (disch := omega) only [q_136_0, q_136_1, q_136_2, q_136_5, q_136_6, q_136_7, q_136_10, q_136_11, q_136_12, q_136_13, q_136_14, q_136_18, q_136_19, q_136_22, q_136_25, q_136_28, q_136_29, q_136_31, q_136_34, q_136_37, q_136_38, q_136_41, q_136_43, q_136_46, q_136_48, q_136_51, q_136_54, q_136_57, q_136_60, q_136_61, q_136_e, va_rf_s, bz_0, bz_1, bz_ok, bb_ok, Nat.add_assoc, w_lt, w_add, w_sub, w_mul, w_div, em_def, w_eq, w_inT, ↓ilt_t, ↓ilt_f, ↓ieq_t, ↓ieq_f, ntT, w_b, w_ix, kx_v, kx_n, kl_n, kl_i, kl_r, kl_o, inA_i, inA_s, inA_b, inA_z, inA_l, inA_0, inA_4, inA_5, inA_6, inA_7, inA_8, inA_9, inA_10, al_0, al_1, al_2, al_4, al_5, al_98, bsP_2, bsP_3, wr_same, wr_wr, wr_ne, up_same, up_ne, Nat.reduceAdd, Int.reduceAdd, Int.reduceSub, Int.reduceMul, Int.reduceLT, Int.reduceLE, Int.reduceEq, Int.reduceNeg, Int.reduceToNat, Nat.reduceLT, Nat.reduceLeDiff, Nat.reduceEqDiff, ↓reduceIte, true_and, and_true, not_true_eq_false, not_false_eq_true, eq_self, or_true, true_or, or_false, false_or, if_true, if_false, Int.toNat_natCast, w_ite, Nat.add_zero, reduceCtorEq, ne_eq, Option.isSome, hv0, hm0, s38]
            exact ih'
    simp (disch := omega) only [q_136_0, q_136_1, q_136_2, q_136_5, q_136_6, q_136_7, q_136_10, q_136_11, q_136_12, q_136_13, q_136_14, q_136_18, q_136_19, q_136_22, q_136_25, q_136_28, q_136_29, q_136_31, q_136_34, q_136_37, q_136_38, q_136_41, q_136_43, q_136_46, q_136_48, q_136_51, q_136_54, q_136_57, q_136_60, q_136_61, q_136_e, va_rf_s, bz_0, bz_1, bz_ok, bb_ok, Nat.add_assoc, w_lt, w_add, w_sub, w_mul, w_div, em_def, w_eq, w_inT, ↓ilt_t, ↓ilt_f, ↓ieq_t, ↓ieq_f, ntT, w_b, w_ix, kx_v, kx_n, kl_n, kl_i, kl_r, kl_o, inA_i, inA_s, inA_b, inA_z, inA_l, inA_0, inA_4, inA_5, inA_6, inA_7, inA_8, inA_9, inA_10, al_0, al_1, al_2, al_4, al_5, al_98, bsP_2, bsP_3, wr_same, wr_wr, wr_ne, up_same, up_ne, Nat.reduceAdd, Int.reduceAdd, Int.reduceSub, Int.reduceMul, Int.reduceLT, Int.reduceLE, Int.reduceEq, Int.reduceNeg, Int.reduceToNat, Nat.reduceLT, Nat.reduceLeDiff, Nat.reduceEqDiff, ↓reduceIte, true_and, and_true, not_true_eq_false, not_false_eq_true, eq_self, or_true, true_or, or_false, false_or, if_true, if_false, Int.toNat_natCast, w_ite, Nat.add_zero, reduceCtorEq, ne_eq, hc, p143, p142]
    exact lp (s.2.1.1 + 1) 0 I (by omega) (vp.refl g.hM g.hU)
  · rw [if_neg cl] at hQ
    have s143 := fun {d : Nat} {Q : XO → Hp → Prop} => h.noL (d := d) (Q := Q) hl cl
    simp (disch := omega) only [q_136_0, q_136_1, q_136_2, q_136_5, q_136_6, q_136_7, q_136_10, q_136_11, q_136_12, q_136_13, q_136_14, q_136_18, q_136_19, q_136_22, q_136_25, q_136_28, q_136_29, q_136_31, q_136_34, q_136_37, q_136_38, q_136_41, q_136_43, q_136_46, q_136_48, q_136_51, q_136_54, q_136_57, q_136_60, q_136_61, q_136_e, va_rf_s, bz_0, bz_1, bz_ok, bb_ok, Nat.add_assoc, w_lt, w_add, w_sub, w_mul, w_div, em_def, w_eq, w_inT, ↓ilt_t, ↓ilt_f, ↓ieq_t, ↓ieq_f, ntT, w_b, w_ix, kx_v, kx_n, kl_n, kl_i, kl_r, kl_o, inA_i, inA_s, inA_b, inA_z, inA_l, inA_0, inA_4, inA_5, inA_6, inA_7, inA_8, inA_9, inA_10, al_0, al_1, al_2, al_4, al_5, al_98, bsP_2, bsP_3, wr_same, wr_wr, wr_ne, up_same, up_ne, Nat.reduceAdd, Int.reduceAdd, Int.reduceSub, Int.reduceMul, Int.reduceLT, Int.reduceLE, Int.reduceEq, Int.reduceNeg, Int.reduceToNat, Nat.reduceLT, Nat.reduceLeDiff, Nat.reduceEqDiff, ↓reduceIte, true_and, and_true, not_true_eq_false, not_false_eq_true, eq_self, or_true, true_or, or_false, false_or, if_true, if_false, Int.toNat_natCast, w_ite, Nat.add_zero, reduceCtorEq, ne_eq, hc, s143, kx_t hk]
    exact CK.mis h (Rem.refl h) hf.1 hQ
def rPrint (s : St) (l : Int) : XO × St := if inL l then (.inl (some (.long (prF (fun n => T (rlz s l) n) (s.2.1.1 + 1)))), s) else (.inr 0, miss s)
theorem sp_139 {l : Int} (h : CR S I L R G c lo s) (hf : few s) (hl : B32 l) (hQ : CK S I L R G c lo Q (rPrint s l).1 (rPrint s l).2) : XC (d + 70) 139 [.ref c, .int (w l)] (mk S I L R G) Q := by
  have hc := h.1.1
  have hk : t_han 139 = [] := rfl
  unfold rPrint at hQ
  by_cases cl : inL l
  · rw [if_pos cl] at hQ
    obtain ⟨k, g⟩ := h.lg cl
    have p142 := @g.p142
    have p143 := @g.p143
    have hv := g.hK.2.1
    have hv0 := hv.1
    have hm0 : S (k + 2) = some (.inr 4) := hv.2.1.1
    have hB := h.1.2.2.1.1
    obtain ⟨b1, b2, b3, b4⟩ := h.bk
    have gb := g.b1
    have gb2 := g.b2
    have lp : ∀ (j n : Nat) (I1 : MI), n + j = s.2.1.1 + 1 → vp (rlz s l) I I1 (k + 1) → XX (d + 70) 139 16 [some (.ref c), some (.int (w l)), some (.ref (k + 1)), some (.long (prF (fun n => T (rlz s l) n) n)), none, some (.int (w n))] [] (mk S I1 L R G) Q := by
      intro j
      induction j with
      | zero =>
        intro n I1 hn hp
        have : n = s.2.1.1 + 1 := by omega
        subst this
        have e1 : I1 (c + 3) 2 = w s.2.1.1 := by rw [hp.1 _ (by omega)]; exact b1
        have hQ' := CK.ask h (g.vp I1 hp) hQ
        rw [q_139_16]
        simp (disch := omega) only [q_139_0, q_139_1, q_139_2, q_139_5, q_139_6, q_139_7, q_139_10, q_139_11, q_139_12, q_139_13, q_139_14, q_139_18, q_139_19, q_139_22, q_139_25, q_139_28, q_139_31, q_139_32, q_139_33, q_139_34, q_139_36, q_139_39, q_139_42, q_139_43, q_139_46, q_139_48, q_139_51, q_139_54, q_139_55, q_139_56, q_139_57, q_139_58, q_139_61, q_139_64, q_139_65, q_139_e, va_rf_s, bz_0, bz_1, bz_ok, bb_ok, Nat.add_assoc, w_lt, w_add, w_sub, w_mul, w_div, em_def, w_eq, w_inT, ↓ilt_t, ↓ilt_f, ↓ieq_t, ↓ieq_f, ntT, w_b, w_ix, kx_v, kx_n, kl_n, kl_i, kl_r, kl_o, inA_i, inA_s, inA_b, inA_z, inA_l, inA_0, inA_4, inA_5, inA_6, inA_7, inA_8, inA_9, inA_10, al_0, al_1, al_2, al_4, al_5, al_98, bsP_2, bsP_3, wr_same, wr_wr, wr_ne, up_same, up_ne, Nat.reduceAdd, Int.reduceAdd, Int.reduceSub, Int.reduceMul, Int.reduceLT, Int.reduceLE, Int.reduceEq, Int.reduceNeg, Int.reduceToNat, Nat.reduceLT, Nat.reduceLeDiff, Nat.reduceEqDiff, ↓reduceIte, true_and, and_true, not_true_eq_false, not_false_eq_true, eq_self, or_true, true_or, or_false, false_or, if_true, if_false, Int.toNat_natCast, w_ite, Nat.add_zero, reduceCtorEq, ne_eq, hc, hB, e1]
        exact hQ'
      | succ j ih =>
        intro n I1 hn hp
        have e1 : I1 (c + 3) 2 = w s.2.1.1 := by rw [hp.1 _ (by omega)]; exact b1
        rw [q_139_16]
        simp (disch := omega) only [q_139_0, q_139_1, q_139_2, q_139_5, q_139_6, q_139_7, q_139_10, q_139_11, q_139_12, q_139_13, q_139_14, q_139_18, q_139_19, q_139_22, q_139_25, q_139_28, q_139_31, q_139_32, q_139_33, q_139_34, q_139_36, q_139_39, q_139_42, q_139_43, q_139_46, q_139_48, q_139_51, q_139_54, q_139_55, q_139_56, q_139_57, q_139_58, q_139_61, q_139_64, q_139_65, q_139_e, va_rf_s, bz_0, bz_1, bz_ok, bb_ok, Nat.add_assoc, w_lt, w_add, w_sub, w_mul, w_div, em_def, w_eq, w_inT, ↓ilt_t, ↓ilt_f, ↓ieq_t, ↓ieq_f, ntT, w_b, w_ix, kx_v, kx_n, kl_n, kl_i, kl_r, kl_o, inA_i, inA_s, inA_b, inA_z, inA_l, inA_0, inA_4, inA_5, inA_6, inA_7, inA_8, inA_9, inA_10, al_0, al_1, al_2, al_4, al_5, al_98, bsP_2, bsP_3, wr_same, wr_wr, wr_ne, up_same, up_ne, Nat.reduceAdd, Int.reduceAdd, Int.reduceSub, Int.reduceMul, Int.reduceLT, Int.reduceLE, Int.reduceEq, Int.reduceNeg, Int.reduceToNat, Nat.reduceLT, Nat.reduceLeDiff, Nat.reduceEqDiff, ↓reduceIte, true_and, and_true, not_true_eq_false, not_false_eq_true, eq_self, or_true, true_or, or_false, false_or, if_true, if_false, Int.toNat_natCast, w_ite, Nat.add_zero, reduceCtorEq, ne_eq, hc, hB, e1, hv0]
        refine sp_84 hv (g.hR.congr hp.1 hp.2.1) hp.2.2.1 hp.2.2.2.1 (by omega) (by omega) (fun I2 hp2 hk2 => ?_)
        have ih' := ih (n + 1) I2 (by omega) (hp.trans hp2)
        simp only [prF] at ih'
        unfold prS at ih'
        simp only [Int.natCast_add, Int.natCast_one] at ih'
        cases hs : sd (rlz s l) (n : Int) with
        | none =>
          rw [show T (rlz s l) (n : Int) = none by rw [T_sd, hs]; rfl] at ih'
          simp (disch := omega) only [q_139_0, q_139_1, q_139_2, q_139_5, q_139_6, q_139_7, q_139_10, q_139_11, q_139_12, q_139_13, q_139_14, q_139_18, q_139_19, q_139_22, q_139_25, q_139_28, q_139_31, q_139_32, q_139_33, q_139_34, q_139_36, q_139_39, q_139_42, q_139_43, q_139_46, q_139_48, q_139_51, q_139_54, q_139_55, q_139_56, q_139_57, q_139_58, q_139_61, q_139_64, q_139_65, q_139_e, va_rf_s, bz_0, bz_1, bz_ok, bb_ok, Nat.add_assoc, w_lt, w_add, w_sub, w_mul, w_div, em_def, w_eq, w_inT, ↓ilt_t, ↓ilt_f, ↓ieq_t, ↓ieq_f, ntT, w_b, w_ix, kx_v, kx_n, kl_n, kl_i, kl_r, kl_o, inA_i, inA_s, inA_b, inA_z, inA_l, inA_0, inA_4, inA_5, inA_6, inA_7, inA_8, inA_9, inA_10, al_0, al_1, al_2, al_4, al_5, al_98, bsP_2, bsP_3, wr_same, wr_wr, wr_ne, up_same, up_ne, Nat.reduceAdd, Int.reduceAdd, Int.reduceSub, Int.reduceMul, Int.reduceLT, Int.reduceLE, Int.reduceEq, Int.reduceNeg, Int.reduceToNat, Nat.reduceLT, Nat.reduceLeDiff, Nat.reduceEqDiff, ↓reduceIte, true_and, and_true, not_true_eq_false, not_false_eq_true, eq_self, or_true, true_or, or_false, false_or, if_true, if_false, Int.toNat_natCast, w_ite, Nat.add_zero, reduceCtorEq, ne_eq, Option.isSome]
          exact ih'
        | some y =>
          have hT : T (rlz s l) (n : Int) = some y.1 := by rw [T_sd, hs]; rfl
          have hsd : Sd I2 (k + 1) n y.1 := (hk2 (by omega) (by omega)).Sd hp2.2.2.1 g.ok (by omega) hT
          have s39 := fun {d : Nat} {Q : XO → Hp → Prop} => sp_39 (d := d) (Q := Q) (L := L) (R := R) (G := G) hv.2.1 (n := (n : Int)) (by omega) (by omega) hsd
          simp only [Nat.add_assoc, Nat.reduceAdd] at s39
          rw [hT] at ih'
          have hlb := lsum_bd y.1 hsd.2.2.2.2
          have hyl := hsd.2.2.1
          have ewl := w_l (a := lsum y.1) (by omega) (by omega)
          simp (disch := omega) only [q_139_0, q_139_1, q_139_2, q_139_5, q_139_6, q_139_7, q_139_10, q_139_11, q_139_12, q_139_13, q_139_14, q_139_18, q_139_19, q_139_22, q_139_25, q_139_28, q_139_31, q_139_32, q_139_33, q_139_34, q_139_36, q_139_39, q_139_42, q_139_43, q_139_46, q_139_48, q_139_51, q_139_54, q_139_55, q_139_56, q_139_57, q_139_58, q_139_61, q_139_64, q_139_65, q_139_e, va_rf_s, bz_0, bz_1, bz_ok, bb_ok, Nat.add_assoc, w_lt, w_add, w_sub, w_mul, w_div, em_def, w_eq, w_inT, ↓ilt_t, ↓ilt_f, ↓ieq_t, ↓ieq_f, ntT, w_b, w_ix, kx_v, kx_n, kl_n, kl_i, kl_r, kl_o, inA_i, inA_s, inA_b, inA_z, inA_l, inA_0, inA_4, inA_5, inA_6, inA_7, inA_8, inA_9, inA_10, al_0, al_1, al_2, al_4, al_5, al_98, bsP_2, bsP_3, wr_same, wr_wr, wr_ne, up_same, up_ne, Nat.reduceAdd, Int.reduceAdd, Int.reduceSub, Int.reduceMul, Int.reduceLT, Int.reduceLE, Int.reduceEq, Int.reduceNeg, Int.reduceToNat, Nat.reduceLT, Nat.reduceLeDiff, Nat.reduceEqDiff, ↓reduceIte, true_and, and_true, not_true_eq_false, not_false_eq_true, eq_self, or_true, true_or, or_false, false_or, if_true, if_false, Int.toNat_natCast, w_ite, Nat.add_zero, reduceCtorEq, ne_eq, Option.isSome, hv0, hm0, s39, ewl]
          exact ih'
    simp (disch := omega) only [q_139_0, q_139_1, q_139_2, q_139_5, q_139_6, q_139_7, q_139_10, q_139_11, q_139_12, q_139_13, q_139_14, q_139_18, q_139_19, q_139_22, q_139_25, q_139_28, q_139_31, q_139_32, q_139_33, q_139_34, q_139_36, q_139_39, q_139_42, q_139_43, q_139_46, q_139_48, q_139_51, q_139_54, q_139_55, q_139_56, q_139_57, q_139_58, q_139_61, q_139_64, q_139_65, q_139_e, va_rf_s, bz_0, bz_1, bz_ok, bb_ok, Nat.add_assoc, w_lt, w_add, w_sub, w_mul, w_div, em_def, w_eq, w_inT, ↓ilt_t, ↓ilt_f, ↓ieq_t, ↓ieq_f, ntT, w_b, w_ix, kx_v, kx_n, kl_n, kl_i, kl_r, kl_o, inA_i, inA_s, inA_b, inA_z, inA_l, inA_0, inA_4, inA_5, inA_6, inA_7, inA_8, inA_9, inA_10, al_0, al_1, al_2, al_4, al_5, al_98, bsP_2, bsP_3, wr_same, wr_wr, wr_ne, up_same, up_ne, Nat.reduceAdd, Int.reduceAdd, Int.reduceSub, Int.reduceMul, Int.reduceLT, Int.reduceLE, Int.reduceEq, Int.reduceNeg, Int.reduceToNat, Nat.reduceLT, Nat.reduceLeDiff, Nat.reduceEqDiff, ↓reduceIte, true_and, and_true, not_true_eq_false, not_false_eq_true, eq_self, or_true, true_or, or_false, false_or, if_true, if_false, Int.toNat_natCast, w_ite, Nat.add_zero, reduceCtorEq, ne_eq, hc, p143, p142]
    exact lp (s.2.1.1 + 1) 0 I (by omega) (vp.refl g.hM g.hU)
  · rw [if_neg cl] at hQ
    have s143 := fun {d : Nat} {Q : XO → Hp → Prop} => h.noL (d := d) (Q := Q) hl cl
    simp (disch := omega) only [q_139_0, q_139_1, q_139_2, q_139_5, q_139_6, q_139_7, q_139_10, q_139_11, q_139_12, q_139_13, q_139_14, q_139_18, q_139_19, q_139_22, q_139_25, q_139_28, q_139_31, q_139_32, q_139_33, q_139_34, q_139_36, q_139_39, q_139_42, q_139_43, q_139_46, q_139_48, q_139_51, q_139_54, q_139_55, q_139_56, q_139_57, q_139_58, q_139_61, q_139_64, q_139_65, q_139_e, va_rf_s, bz_0, bz_1, bz_ok, bb_ok, Nat.add_assoc, w_lt, w_add, w_sub, w_mul, w_div, em_def, w_eq, w_inT, ↓ilt_t, ↓ilt_f, ↓ieq_t, ↓ieq_f, ntT, w_b, w_ix, kx_v, kx_n, kl_n, kl_i, kl_r, kl_o, inA_i, inA_s, inA_b, inA_z, inA_l, inA_0, inA_4, inA_5, inA_6, inA_7, inA_8, inA_9, inA_10, al_0, al_1, al_2, al_4, al_5, al_98, bsP_2, bsP_3, wr_same, wr_wr, wr_ne, up_same, up_ne, Nat.reduceAdd, Int.reduceAdd, Int.reduceSub, Int.reduceMul, Int.reduceLT, Int.reduceLE, Int.reduceEq, Int.reduceNeg, Int.reduceToNat, Nat.reduceLT, Nat.reduceLeDiff, Nat.reduceEqDiff, ↓reduceIte, true_and, and_true, not_true_eq_false, not_false_eq_true, eq_self, or_true, true_or, or_false, false_or, if_true, if_false, Int.toNat_natCast, w_ite, Nat.add_zero, reduceCtorEq, ne_eq, hc, s143, kx_t hk]
    exact CK.mis h (Rem.refl h) hf.1 hQ
theorem sp_131 (h : CR S I L R G c lo s) (hQ : CK S I L R G c lo Q (outX (.inl (vSame (s.2.1.2 0) (s.2.1.2 1) s.2.1.1))) s) : XC (d + 70) 131 [.ref c] (mk S I L R G) Q := by
  have hc := h.1.1
  have hB := h.1.2.2.1.1
  have hK0 := h.1.2.2.2.2.2.1
  have hK1 := h.1.2.2.2.2.2.2.1
  have hv0 := hK0.2.1
  have hv1 := hK1.2.1
  have x0 : S (c + 52) = some (.inr 9) := hv0.1
  have x1 : S (c + 72) = some (.inr 9) := hv1.1
  have ym0 : S (c + 53) = some (.inr 4) := hv0.2.1.1
  have ym1 : S (c + 73) = some (.inr 4) := hv1.2.1.1
  have lp : ∀ (j n : Nat) (I1 : MI), n + j = s.2.1.1 + 1 → Rem S I L R c s I1 L → XX (d + 70) 131 21 [some (.ref c), some (.ref (c + 52)), some (.ref (c + 72)), some (.int (w (cnt (fun n => (T (s.2.1.2 0) n).isSome && decide (T (s.2.1.2 0) n = T (s.2.1.2 1) n)) n))), some (.int (w n))] [] (mk S I1 L R G) Q := by
    intro j
    induction j with
    | zero =>
      intro n I1 hn hr
      have : n = s.2.1.1 + 1 := by omega
      subst this
      have h1 := hr.cr h
      obtain ⟨b1, b2, b3, b4⟩ := h1.bk
      have hQ' := CK.ask h hr hQ
      rw [q_131_21]
      simp (disch := omega) only [q_131_0, q_131_1, q_131_4, q_131_7, q_131_8, q_131_9, q_131_12, q_131_15, q_131_16, q_131_17, q_131_18, q_131_19, q_131_23, q_131_24, q_131_27, q_131_30, q_131_33, q_131_34, q_131_36, q_131_39, q_131_42, q_131_43, q_131_45, q_131_48, q_131_51, q_131_52, q_131_55, q_131_56, q_131_59, q_131_61, q_131_64, q_131_67, q_131_70, q_131_73, q_131_76, q_131_77, q_131_e, va_rf_s, bz_0, bz_1, bz_ok, bb_ok, Nat.add_assoc, w_lt, w_add, w_sub, w_mul, w_div, em_def, w_eq, w_inT, ↓ilt_t, ↓ilt_f, ↓ieq_t, ↓ieq_f, ntT, w_b, w_ix, kx_v, kx_n, kl_n, kl_i, kl_r, kl_o, inA_i, inA_s, inA_b, inA_z, inA_l, inA_0, inA_4, inA_5, inA_6, inA_7, inA_8, inA_9, inA_10, al_0, al_1, al_2, al_4, al_5, al_98, bsP_2, bsP_3, wr_same, wr_wr, wr_ne, up_same, up_ne, Nat.reduceAdd, Int.reduceAdd, Int.reduceSub, Int.reduceMul, Int.reduceLT, Int.reduceLE, Int.reduceEq, Int.reduceNeg, Int.reduceToNat, Nat.reduceLT, Nat.reduceLeDiff, Nat.reduceEqDiff, ↓reduceIte, true_and, and_true, not_true_eq_false, not_false_eq_true, eq_self, or_true, true_or, or_false, false_or, if_true, if_false, Int.toNat_natCast, w_ite, Nat.add_zero, reduceCtorEq, ne_eq, hc, hB, b1]
      exact hQ'
    | succ j ih =>
      intro n I1 hn hr
      have h1 := hr.cr h
      obtain ⟨b1, b2, b3, b4⟩ := h1.bk
      have hcn := cnt_le (fun n => (T (s.2.1.2 0) n).isSome && decide (T (s.2.1.2 0) n = T (s.2.1.2 1) n)) n
      obtain ⟨-, ⟨hR0, hM0, hU0, -⟩, -⟩ := h1.rank (l := 0) (by decide)
      have hR1 := (h.rank (l := 1) (by decide)).2.1.1
      rw [q_131_21]
      simp (disch := omega) only [q_131_0, q_131_1, q_131_4, q_131_7, q_131_8, q_131_9, q_131_12, q_131_15, q_131_16, q_131_17, q_131_18, q_131_19, q_131_23, q_131_24, q_131_27, q_131_30, q_131_33, q_131_34, q_131_36, q_131_39, q_131_42, q_131_43, q_131_45, q_131_48, q_131_51, q_131_52, q_131_55, q_131_56, q_131_59, q_131_61, q_131_64, q_131_67, q_131_70, q_131_73, q_131_76, q_131_77, q_131_e, va_rf_s, bz_0, bz_1, bz_ok, bb_ok, Nat.add_assoc, w_lt, w_add, w_sub, w_mul, w_div, em_def, w_eq, w_inT, ↓ilt_t, ↓ilt_f, ↓ieq_t, ↓ieq_f, ntT, w_b, w_ix, kx_v, kx_n, kl_n, kl_i, kl_r, kl_o, inA_i, inA_s, inA_b, inA_z, inA_l, inA_0, inA_4, inA_5, inA_6, inA_7, inA_8, inA_9, inA_10, al_0, al_1, al_2, al_4, al_5, al_98, bsP_2, bsP_3, wr_same, wr_wr, wr_ne, up_same, up_ne, Nat.reduceAdd, Int.reduceAdd, Int.reduceSub, Int.reduceMul, Int.reduceLT, Int.reduceLE, Int.reduceEq, Int.reduceNeg, Int.reduceToNat, Nat.reduceLT, Nat.reduceLeDiff, Nat.reduceEqDiff, ↓reduceIte, true_and, and_true, not_true_eq_false, not_false_eq_true, eq_self, or_true, true_or, or_false, false_or, if_true, if_false, Int.toNat_natCast, w_ite, Nat.add_zero, reduceCtorEq, ne_eq, hc, hB, b1, x0, x1, ym0, ym1]
      refine sp_84 (n := (n : Int)) hv0 hR0 hM0 hU0 (by omega) (by omega) (fun I2 hp2 hk2 => ?_)
      have hr2 := CR.vp h1 (l := 0) (by decide) hp2
      have h2 := hr2.cr h1
      have ih2 := ih (n + 1) I2 (by omega) (hr.trans hr2)
      have ih' := fun I3 (hp3 : vp (s.2.1.2 1) I2 I3 (c + 51 + 20 * 1 + 1)) => ih (n + 1) I3 (by omega) ((hr.trans hr2).trans (CR.vp h2 (l := 1) (by decide) hp3))
      have hst : ∀ b, ((T (s.2.1.2 0) (n : Int)).isSome && decide (T (s.2.1.2 0) (n : Int) = T (s.2.1.2 1) (n : Int))) = b → cnt (fun n : Nat => (T (s.2.1.2 0) n).isSome && decide (T (s.2.1.2 0) n = T (s.2.1.2 1) n)) (n + 1) = cnt (fun n : Nat => (T (s.2.1.2 0) n).isSome && decide (T (s.2.1.2 0) n = T (s.2.1.2 1) n)) n + (if b = true then 1 else 0) := fun b hb => cnt_s hb
      cases hs : sd (s.2.1.2 0) (n : Int) with
      | none =>
        rw [hst false (by rw [show T (s.2.1.2 0) (n : Int) = none by rw [T_sd, hs]; rfl]; rfl)] at ih2
        simp only [Int.natCast_add, Int.natCast_one, Bool.false_eq_true, if_false, Nat.add_zero] at ih2
        simp (disch := omega) only [q_131_0, q_131_1, q_131_4, q_131_7, q_131_8, q_131_9, q_131_12, q_131_15, q_131_16, q_131_17, q_131_18, q_131_19, q_131_23, q_131_24, q_131_27, q_131_30, q_131_33, q_131_34, q_131_36, q_131_39, q_131_42, q_131_43, q_131_45, q_131_48, q_131_51, q_131_52, q_131_55, q_131_56, q_131_59, q_131_61, q_131_64, q_131_67, q_131_70, q_131_73, q_131_76, q_131_77, q_131_e, va_rf_s, bz_0, bz_1, bz_ok, bb_ok, Nat.add_assoc, w_lt, w_add, w_sub, w_mul, w_div, em_def, w_eq, w_inT, ↓ilt_t, ↓ilt_f, ↓ieq_t, ↓ieq_f, ntT, w_b, w_ix, kx_v, kx_n, kl_n, kl_i, kl_r, kl_o, inA_i, inA_s, inA_b, inA_z, inA_l, inA_0, inA_4, inA_5, inA_6, inA_7, inA_8, inA_9, inA_10, al_0, al_1, al_2, al_4, al_5, al_98, bsP_2, bsP_3, wr_same, wr_wr, wr_ne, up_same, up_ne, Nat.reduceAdd, Int.reduceAdd, Int.reduceSub, Int.reduceMul, Int.reduceLT, Int.reduceLE, Int.reduceEq, Int.reduceNeg, Int.reduceToNat, Nat.reduceLT, Nat.reduceLeDiff, Nat.reduceEqDiff, ↓reduceIte, true_and, and_true, not_true_eq_false, not_false_eq_true, eq_self, or_true, true_or, or_false, false_or, if_true, if_false, Int.toNat_natCast, w_ite, Nat.add_zero, reduceCtorEq, ne_eq, Option.isSome]
        exact ih2
      | some y =>
        have hT : T (s.2.1.2 0) (n : Int) = some y.1 := by rw [T_sd, hs]; rfl
        obtain ⟨-, ⟨hR1, hM1, hU1, -⟩, -⟩ := h2.rank (l := 1) (by decide)
        simp (disch := omega) only [q_131_0, q_131_1, q_131_4, q_131_7, q_131_8, q_131_9, q_131_12, q_131_15, q_131_16, q_131_17, q_131_18, q_131_19, q_131_23, q_131_24, q_131_27, q_131_30, q_131_33, q_131_34, q_131_36, q_131_39, q_131_42, q_131_43, q_131_45, q_131_48, q_131_51, q_131_52, q_131_55, q_131_56, q_131_59, q_131_61, q_131_64, q_131_67, q_131_70, q_131_73, q_131_76, q_131_77, q_131_e, va_rf_s, bz_0, bz_1, bz_ok, bb_ok, Nat.add_assoc, w_lt, w_add, w_sub, w_mul, w_div, em_def, w_eq, w_inT, ↓ilt_t, ↓ilt_f, ↓ieq_t, ↓ieq_f, ntT, w_b, w_ix, kx_v, kx_n, kl_n, kl_i, kl_r, kl_o, inA_i, inA_s, inA_b, inA_z, inA_l, inA_0, inA_4, inA_5, inA_6, inA_7, inA_8, inA_9, inA_10, al_0, al_1, al_2, al_4, al_5, al_98, bsP_2, bsP_3, wr_same, wr_wr, wr_ne, up_same, up_ne, Nat.reduceAdd, Int.reduceAdd, Int.reduceSub, Int.reduceMul, Int.reduceLT, Int.reduceLE, Int.reduceEq, Int.reduceNeg, Int.reduceToNat, Nat.reduceLT, Nat.reduceLeDiff, Nat.reduceEqDiff, ↓reduceIte, true_and, and_true, not_true_eq_false, not_false_eq_true, eq_self, or_true, true_or, or_false, false_or, if_true, if_false, Int.toNat_natCast, w_ite, Nat.add_zero, reduceCtorEq, ne_eq, Option.isSome, x0, x1, ym0, ym1]
        refine sp_84 (n := (n : Int)) hv1 hR1 hM1 hU1 (by omega) (by omega) (fun I3 hp3 hk3 => ?_)
        have ih3 := ih' I3 hp3
        have h3 := (CR.vp h2 (l := 1) (by decide) hp3).cr h2
        cases hs1 : sd (s.2.1.2 1) (n : Int) with
        | none =>
          rw [hst false (by rw [hT, show T (s.2.1.2 1) (n : Int) = none by rw [T_sd, hs1]; rfl]; rfl)] at ih3
          simp only [Int.natCast_add, Int.natCast_one, Bool.false_eq_true, if_false, Nat.add_zero] at ih3
          simp (disch := omega) only [q_131_0, q_131_1, q_131_4, q_131_7, q_131_8, q_131_9, q_131_12, q_131_15, q_131_16, q_131_17, q_131_18, q_131_19, q_131_23, q_131_24, q_131_27, q_131_30, q_131_33, q_131_34, q_131_36, q_131_39, q_131_42, q_131_43, q_131_45, q_131_48, q_131_51, q_131_52, q_131_55, q_131_56, q_131_59, q_131_61, q_131_64, q_131_67, q_131_70, q_131_73, q_131_76, q_131_77, q_131_e, va_rf_s, bz_0, bz_1, bz_ok, bb_ok, Nat.add_assoc, w_lt, w_add, w_sub, w_mul, w_div, em_def, w_eq, w_inT, ↓ilt_t, ↓ilt_f, ↓ieq_t, ↓ieq_f, ntT, w_b, w_ix, kx_v, kx_n, kl_n, kl_i, kl_r, kl_o, inA_i, inA_s, inA_b, inA_z, inA_l, inA_0, inA_4, inA_5, inA_6, inA_7, inA_8, inA_9, inA_10, al_0, al_1, al_2, al_4, al_5, al_98, bsP_2, bsP_3, wr_same, wr_wr, wr_ne, up_same, up_ne, Nat.reduceAdd, Int.reduceAdd, Int.reduceSub, Int.reduceMul, Int.reduceLT, Int.reduceLE, Int.reduceEq, Int.reduceNeg, Int.reduceToNat, Nat.reduceLT, Nat.reduceLeDiff, Nat.reduceEqDiff, ↓reduceIte, true_and, and_true, not_true_eq_false, not_false_eq_true, eq_self, or_true, true_or, or_false, false_or, if_true, if_false, Int.toNat_natCast, w_ite, Nat.add_zero, reduceCtorEq, ne_eq, Option.isSome]
          exact ih3
        | some y1 =>
          obtain ⟨-, ⟨hR0', hM0', hU0', -⟩, -⟩ := h3.rank (l := 0) (by decide)
          obtain ⟨-, ⟨hR1', hM1', hU1', -⟩, -⟩ := h3.rank (l := 1) (by decide)
          have hkn : Kn I3 (c + 51 + 20 * 0 + 1) n := Kn_congr (hp3.1 _ (by omega)) (hk2 (by omega) (by omega))
          have s40 := fun {d : Nat} {Q : XO → Hp → Prop} => sp_40 (d := d) (Q := Q) (I := I3) (L := L) (R := R) (G := G) hv0.2.1 hv1.2.1 (n := (n : Int)) (by omega) (by omega) hM0' hM1' hR0'.ok hR1'.ok hkn (hk3 (by omega) (by omega)) (by rw [hs, hs1]; first | done | rfl)
          rw [hT] at s40
          simp only [Nat.add_assoc, Nat.reduceAdd, Nat.reduceMul] at s40
          have e0 := hv0.1
          have e1 := hv1.1
          simp only [Nat.add_assoc, Nat.reduceAdd] at e0 e1
          by_cases c0 : some y.1 = T (s.2.1.2 1) (n : Int)
          · rw [hst true (by rw [hT, ← c0]; simp)] at ih3
            simp only [Int.natCast_add, Int.natCast_one, if_true] at ih3
            simp only [← c0, decide_true] at s40
            simp (disch := omega) only [q_131_0, q_131_1, q_131_4, q_131_7, q_131_8, q_131_9, q_131_12, q_131_15, q_131_16, q_131_17, q_131_18, q_131_19, q_131_23, q_131_24, q_131_27, q_131_30, q_131_33, q_131_34, q_131_36, q_131_39, q_131_42, q_131_43, q_131_45, q_131_48, q_131_51, q_131_52, q_131_55, q_131_56, q_131_59, q_131_61, q_131_64, q_131_67, q_131_70, q_131_73, q_131_76, q_131_77, q_131_e, va_rf_s, bz_0, bz_1, bz_ok, bb_ok, Nat.add_assoc, w_lt, w_add, w_sub, w_mul, w_div, em_def, w_eq, w_inT, ↓ilt_t, ↓ilt_f, ↓ieq_t, ↓ieq_f, ntT, w_b, w_ix, kx_v, kx_n, kl_n, kl_i, kl_r, kl_o, inA_i, inA_s, inA_b, inA_z, inA_l, inA_0, inA_4, inA_5, inA_6, inA_7, inA_8, inA_9, inA_10, al_0, al_1, al_2, al_4, al_5, al_98, bsP_2, bsP_3, wr_same, wr_wr, wr_ne, up_same, up_ne, Nat.reduceAdd, Int.reduceAdd, Int.reduceSub, Int.reduceMul, Int.reduceLT, Int.reduceLE, Int.reduceEq, Int.reduceNeg, Int.reduceToNat, Nat.reduceLT, Nat.reduceLeDiff, Nat.reduceEqDiff, ↓reduceIte, true_and, and_true, not_true_eq_false, not_false_eq_true, eq_self, or_true, true_or, or_false, false_or, if_true, if_false, Int.toNat_natCast, w_ite, Nat.add_zero, reduceCtorEq, ne_eq, Option.isSome, x0, x1, ym0, ym1, s40]
            exact ih3
          · rw [hst false (by rw [hT, decide_eq_false c0]; rfl)] at ih3
            simp only [Int.natCast_add, Int.natCast_one, Bool.false_eq_true, if_false, Nat.add_zero] at ih3
            simp only [c0, decide_false] at s40
            simp (disch := omega) only [q_131_0, q_131_1, q_131_4, q_131_7, q_131_8, q_131_9, q_131_12, q_131_15, q_131_16, q_131_17, q_131_18, q_131_19, q_131_23, q_131_24, q_131_27, q_131_30, q_131_33, q_131_34, q_131_36, q_131_39, q_131_42, q_131_43, q_131_45, q_131_48, q_131_51, q_131_52, q_131_55, q_131_56, q_131_59, q_131_61, q_131_64, q_131_67, q_131_70, q_131_73, q_131_76, q_131_77, q_131_e, va_rf_s, bz_0, bz_1, bz_ok, bb_ok, Nat.add_assoc, w_lt, w_add, w_sub, w_mul, w_div, em_def, w_eq, w_inT, ↓ilt_t, ↓ilt_f, ↓ieq_t, ↓ieq_f, ntT, w_b, w_ix, kx_v, kx_n, kl_n, kl_i, kl_r, kl_o, inA_i, inA_s, inA_b, inA_z, inA_l, inA_0, inA_4, inA_5, inA_6, inA_7, inA_8, inA_9, inA_10, al_0, al_1, al_2, al_4, al_5, al_98, bsP_2, bsP_3, wr_same, wr_wr, wr_ne, up_same, up_ne, Nat.reduceAdd, Int.reduceAdd, Int.reduceSub, Int.reduceMul, Int.reduceLT, Int.reduceLE, Int.reduceEq, Int.reduceNeg, Int.reduceToNat, Nat.reduceLT, Nat.reduceLeDiff, Nat.reduceEqDiff, ↓reduceIte, true_and, and_true, not_true_eq_false, not_false_eq_true, eq_self, or_true, true_or, or_false, false_or, if_true, if_false, Int.toNat_natCast, w_ite, Nat.add_zero, reduceCtorEq, ne_eq, Option.isSome, x0, x1, ym0, ym1, s40]
            exact ih3
  have e0 := hK0.1
  have e1 := hK1.1
  simp (disch := omega) only [q_131_0, q_131_1, q_131_4, q_131_7, q_131_8, q_131_9, q_131_12, q_131_15, q_131_16, q_131_17, q_131_18, q_131_19, q_131_23, q_131_24, q_131_27, q_131_30, q_131_33, q_131_34, q_131_36, q_131_39, q_131_42, q_131_43, q_131_45, q_131_48, q_131_51, q_131_52, q_131_55, q_131_56, q_131_59, q_131_61, q_131_64, q_131_67, q_131_70, q_131_73, q_131_76, q_131_77, q_131_e, va_rf_s, bz_0, bz_1, bz_ok, bb_ok, Nat.add_assoc, w_lt, w_add, w_sub, w_mul, w_div, em_def, w_eq, w_inT, ↓ilt_t, ↓ilt_f, ↓ieq_t, ↓ieq_f, ntT, w_b, w_ix, kx_v, kx_n, kl_n, kl_i, kl_r, kl_o, inA_i, inA_s, inA_b, inA_z, inA_l, inA_0, inA_4, inA_5, inA_6, inA_7, inA_8, inA_9, inA_10, al_0, al_1, al_2, al_4, al_5, al_98, bsP_2, bsP_3, wr_same, wr_wr, wr_ne, up_same, up_ne, Nat.reduceAdd, Int.reduceAdd, Int.reduceSub, Int.reduceMul, Int.reduceLT, Int.reduceLE, Int.reduceEq, Int.reduceNeg, Int.reduceToNat, Nat.reduceLT, Nat.reduceLeDiff, Nat.reduceEqDiff, ↓reduceIte, true_and, and_true, not_true_eq_false, not_false_eq_true, eq_self, or_true, true_or, or_false, false_or, if_true, if_false, Int.toNat_natCast, w_ite, Nat.add_zero, reduceCtorEq, ne_eq, hc, e0, e1]
  exact lp (s.2.1.1 + 1) 0 I (by omega) (Rem.refl h)
end

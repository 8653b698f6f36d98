/-! all that is said, laid -/
theorem bgn_le {rs : List Rl} (hr : rsOk rs) : ∀ n, bgn rs n ≤ 100 * n
  | 0 => Nat.le_refl _
  | n + 1 => by
    have ih := bgn_le hr n
    unfold bgn
    cases h : T rs n with
    | none => dsimp only; omega
    | some t =>
      have := (T_ok hr h).2
      dsimp only; omega
theorem bgn_s {rs : List Rl} {n : Nat} {t : List Int} (h : T rs n = some t) : bgn rs (n + 1) = bgn rs n + t.length := by
  show bgn rs n + (match T rs n with | none => 0 | some t => t.length) = _
  rw [h]
theorem bgn_n {rs : List Rl} {n : Nat} (h : T rs n = none) : bgn rs (n + 1) = bgn rs n := by
  show bgn rs n + (match T rs n with | none => 0 | some t => t.length) = _
  rw [h]; rfl
theorem bgn_mono {rs : List Rl} : ∀ {a b : Nat}, a ≤ b → bgn rs a ≤ bgn rs b := by
  intro a b h
  induction h with
  | refl => exact Nat.le_refl _
  | step _ ih => exact Nat.le_trans ih (Nat.le_add_right _ _)
/-- what laying leaves alone -/
def LyF (I I' : MI) (m : Nat) : Prop := (∀ x, x ≠ m → (x < m + 6541 ∨ m + 6580 ≤ x) → I' x = I x) ∧ (∀ j, (j < 16 ∨ 22 < j) → I' m j = I m j)
theorem LyF.refl {I : MI} {m : Nat} : LyF I I m := ⟨fun _ _ _ => rfl, fun _ _ => rfl⟩
theorem LyF.trans {I I1 I2 : MI} {m : Nat} (h : LyF I I1 m) (h' : LyF I1 I2 m) : LyF I I2 m := ⟨fun x h1 h2 => (h'.1 x h1 h2).trans (h.1 x h1 h2), fun j hj => (h'.2 j hj).trans (h.2 j hj)⟩
theorem SaF.ly {I I' : MI} {m : Nat} (h : SaF I I' m) : LyF I I' m := ⟨fun x h1 h2 => h.1 x h1 (by omega), fun j hj => h.2 j (by omega)⟩
theorem LdN.keep {I I' : MI} {m n : Nat} {rs : List Rl} (h : LdN I m rs n) (e1 : ∀ j, j < bgn rs (n + 1) → I' (m + 6577) j = I (m + 6577) j) (e2 : I' (m + 6578) n = I (m + 6578) n) (e3 : I' (m + 6579) n = I (m + 6579) n) : LdN I' m rs n := by
  obtain ⟨a, b, c⟩ := h
  refine ⟨by rw [e2]; exact a, fun hn => by rw [e3]; exact b hn, fun t ht => ?_⟩
  obtain ⟨c1, c2⟩ := c t ht
  refine ⟨by rw [e3]; exact c1, Txt_congr c2 (fun j h1 h2 => e1 j ?_)⟩
  rw [bgn_s ht]; exact h2
section
variable {d : Nat} {Q : XO → Hp → Prop} {S : SH} {I : MI} {L : ML} {R : MR} {G : MG} {A : Hp}
variable {m : Nat} {s : St} {two : Bool}
theorem sp_194 {l h : Nat} {rs : List Rl} {z0 : Int} (hL : MLay S R m) (hl : l < 2) (hR : RsM I m l rs) (h13 : I m 13 = w h) (hh : h ≤ 1000) (h22 : I m 22 = w z0) (hz : -1 ≤ z0 ∧ z0 ≤ 1) (hd : z0 = l → LdA I m rs h)
    (hQ : ∀ I' : MI, LyF I I' m → I' m 22 = w l → LdA I' m rs h → Q (.inl none) (mk S I' L R G)) : XC (d + 63) 194 [.ref m, .int (w l)] (mk S I L R G) Q := by
  obtain ⟨g0, g1, g2, g3, g4, g5, g6, ⟨y1, y2, y3, y4⟩, ⟨k1, k2, k3, -⟩, -⟩ := id hL
  have hr := hR.ok
  by_cases c0 : z0 = l
  · simp (disch := omega) only [q_194_0, q_194_1, q_194_4, q_194_5, q_194_8, q_194_9, q_194_10, q_194_11, q_194_14, q_194_15, q_194_16, q_194_17, q_194_19, q_194_20, q_194_23, q_194_26, q_194_27, q_194_28, q_194_29, q_194_32, q_194_34, q_194_35, q_194_38, q_194_39, q_194_40, q_194_41, q_194_42, q_194_45, q_194_46, q_194_48, q_194_51, q_194_52, q_194_55, q_194_58, q_194_59, q_194_60, q_194_61, q_194_65, q_194_68, q_194_70, q_194_71, q_194_74, q_194_77, q_194_78, q_194_81, q_194_82, q_194_84, q_194_85, q_194_86, q_194_89, q_194_91, q_194_92, q_194_93, q_194_96, q_194_99, q_194_100, q_194_102, q_194_105, q_194_106, q_194_109, q_194_112, q_194_113, q_194_114, q_194_115, q_194_118, q_194_121, q_194_e, va_rf_s, bz_0, bz_1, bz_ok, bb_ok, Nat.add_assoc, w_lt, w_add, w_sub, w_mul, w_div, em_def, w_eq, w_inT, ↓ilt_t, ↓ilt_f, ↓ieq_t, ↓ieq_f, ntT, w_b, w_ix, kx_v, kx_n, kl_n, kl_i, kl_r, kl_o, inA_i, inA_s, inA_b, inA_z, inA_l, inA_0, inA_4, inA_5, inA_6, inA_7, inA_8, inA_9, inA_10, al_0, al_1, al_2, al_4, al_5, al_98, bsP_2, bsP_3, wr_same, wr_wr, wr_ne, up_same, up_ne, Nat.reduceAdd, Int.reduceAdd, Int.reduceSub, Int.reduceMul, Int.reduceLT, Int.reduceLE, Int.reduceEq, Int.reduceNeg, Int.reduceToNat, Nat.reduceLT, Nat.reduceLeDiff, Nat.reduceEqDiff, ↓reduceIte, true_and, and_true, not_true_eq_false, not_false_eq_true, eq_self, or_true, true_or, or_false, false_or, if_true, if_false, Int.toNat_natCast, w_ite, Nat.add_zero, reduceCtorEq, ne_eq, g0, h22]
    exact hQ I LyF.refl (by rw [h22, c0]) (hd c0)
  · have lp : ∀ (j n : Nat) (I1 : MI) (o4 o5 : Option Value), n + j = h + 1 → LyF I I1 m → I1 m 22 = w l → (∀ n', n' < n → LdN I1 m rs n') → XX (d + 63) 194 18 [some (.ref m), some (.int (w l)), some (.int (w (bgn rs n))), some (.int (w n)), o4, o5] [] (mk S I1 L R G) Q := by
      intro j
      induction j with
      | zero =>
        intro n I1 o4 o5 hn hF e22 hld
        have e13 : I1 m 13 = w h := by rw [hF.2 13 (by omega)]; exact h13
        rw [q_194_18]
        simp (disch := omega) only [q_194_0, q_194_1, q_194_4, q_194_5, q_194_8, q_194_9, q_194_10, q_194_11, q_194_14, q_194_15, q_194_16, q_194_17, q_194_19, q_194_20, q_194_23, q_194_26, q_194_27, q_194_28, q_194_29, q_194_32, q_194_34, q_194_35, q_194_38, q_194_39, q_194_40, q_194_41, q_194_42, q_194_45, q_194_46, q_194_48, q_194_51, q_194_52, q_194_55, q_194_58, q_194_59, q_194_60, q_194_61, q_194_65, q_194_68, q_194_70, q_194_71, q_194_74, q_194_77, q_194_78, q_194_81, q_194_82, q_194_84, q_194_85, q_194_86, q_194_89, q_194_91, q_194_92, q_194_93, q_194_96, q_194_99, q_194_100, q_194_102, q_194_105, q_194_106, q_194_109, q_194_112, q_194_113, q_194_114, q_194_115, q_194_118, q_194_121, q_194_e, va_rf_s, bz_0, bz_1, bz_ok, bb_ok, Nat.add_assoc, w_lt, w_add, w_sub, w_mul, w_div, em_def, w_eq, w_inT, ↓ilt_t, ↓ilt_f, ↓ieq_t, ↓ieq_f, ntT, w_b, w_ix, kx_v, kx_n, kl_n, kl_i, kl_r, kl_o, inA_i, inA_s, inA_b, inA_z, inA_l, inA_0, inA_4, inA_5, inA_6, inA_7, inA_8, inA_9, inA_10, al_0, al_1, al_2, al_4, al_5, al_98, bsP_2, bsP_3, wr_same, wr_wr, wr_ne, up_same, up_ne, Nat.reduceAdd, Int.reduceAdd, Int.reduceSub, Int.reduceMul, Int.reduceLT, Int.reduceLE, Int.reduceEq, Int.reduceNeg, Int.reduceToNat, Nat.reduceLT, Nat.reduceLeDiff, Nat.reduceEqDiff, ↓reduceIte, true_and, and_true, not_true_eq_false, not_false_eq_true, eq_self, or_true, true_or, or_false, false_or, if_true, if_false, Int.toNat_natCast, w_ite, Nat.add_zero, reduceCtorEq, ne_eq, g0, e13]
        exact hQ I1 hF e22 (fun n' hn' => hld n' (by omega))
      | succ j ih =>
        intro n I1 o4 o5 hn hF e22 hld
        have e13 : I1 m 13 = w h := by rw [hF.2 13 (by omega)]; exact h13
        have hR1 : RsM I1 m l rs := hR.congr (by omega) (fun a b1 b2 => hF.1 a (by omega) (by omega))
        have hb1 := bgn_le hr n
        have hb2 := bgn_le hr (n + 1)
        rw [q_194_18]
        simp (disch := omega) only [q_194_0, q_194_1, q_194_4, q_194_5, q_194_8, q_194_9, q_194_10, q_194_11, q_194_14, q_194_15, q_194_16, q_194_17, q_194_19, q_194_20, q_194_23, q_194_26, q_194_27, q_194_28, q_194_29, q_194_32, q_194_34, q_194_35, q_194_38, q_194_39, q_194_40, q_194_41, q_194_42, q_194_45, q_194_46, q_194_48, q_194_51, q_194_52, q_194_55, q_194_58, q_194_59, q_194_60, q_194_61, q_194_65, q_194_68, q_194_70, q_194_71, q_194_74, q_194_77, q_194_78, q_194_81, q_194_82, q_194_84, q_194_85, q_194_86, q_194_89, q_194_91, q_194_92, q_194_93, q_194_96, q_194_99, q_194_100, q_194_102, q_194_105, q_194_106, q_194_109, q_194_112, q_194_113, q_194_114, q_194_115, q_194_118, q_194_121, q_194_e, va_rf_s, bz_0, bz_1, bz_ok, bb_ok, Nat.add_assoc, w_lt, w_add, w_sub, w_mul, w_div, em_def, w_eq, w_inT, ↓ilt_t, ↓ilt_f, ↓ieq_t, ↓ieq_f, ntT, w_b, w_ix, kx_v, kx_n, kl_n, kl_i, kl_r, kl_o, inA_i, inA_s, inA_b, inA_z, inA_l, inA_0, inA_4, inA_5, inA_6, inA_7, inA_8, inA_9, inA_10, al_0, al_1, al_2, al_4, al_5, al_98, bsP_2, bsP_3, wr_same, wr_wr, wr_ne, up_same, up_ne, Nat.reduceAdd, Int.reduceAdd, Int.reduceSub, Int.reduceMul, Int.reduceLT, Int.reduceLE, Int.reduceEq, Int.reduceNeg, Int.reduceToNat, Nat.reduceLT, Nat.reduceLeDiff, Nat.reduceEqDiff, ↓reduceIte, true_and, and_true, not_true_eq_false, not_false_eq_true, eq_self, or_true, true_or, or_false, false_or, if_true, if_false, Int.toNat_natCast, w_ite, Nat.add_zero, reduceCtorEq, ne_eq, g0, e13]
        refine sp_193 (n := (n : Int)) hL (by omega) hR1 (by constructor <;> omega) (fun I2 hF2 hS2 => ?_)
        cases hs : sd rs (n : Int) with
        | none =>
          have hT : T rs (n : Int) = none := by rw [T_sd, hs]; rfl
          have ebn := bgn_n hT
          have ih' := fun I3 o5 h1 h2 h3 => ih (n + 1) I3 (some (.int (w 0))) o5 (by omega) h1 h2 h3
          rw [ebn] at ih'
          simp only [Int.natCast_add, Int.natCast_one] at ih'
          simp (disch := omega) only [q_194_0, q_194_1, q_194_4, q_194_5, q_194_8, q_194_9, q_194_10, q_194_11, q_194_14, q_194_15, q_194_16, q_194_17, q_194_19, q_194_20, q_194_23, q_194_26, q_194_27, q_194_28, q_194_29, q_194_32, q_194_34, q_194_35, q_194_38, q_194_39, q_194_40, q_194_41, q_194_42, q_194_45, q_194_46, q_194_48, q_194_51, q_194_52, q_194_55, q_194_58, q_194_59, q_194_60, q_194_61, q_194_65, q_194_68, q_194_70, q_194_71, q_194_74, q_194_77, q_194_78, q_194_81, q_194_82, q_194_84, q_194_85, q_194_86, q_194_89, q_194_91, q_194_92, q_194_93, q_194_96, q_194_99, q_194_100, q_194_102, q_194_105, q_194_106, q_194_109, q_194_112, q_194_113, q_194_114, q_194_115, q_194_118, q_194_121, q_194_e, va_rf_s, bz_0, bz_1, bz_ok, bb_ok, Nat.add_assoc, w_lt, w_add, w_sub, w_mul, w_div, em_def, w_eq, w_inT, ↓ilt_t, ↓ilt_f, ↓ieq_t, ↓ieq_f, ntT, w_b, w_ix, kx_v, kx_n, kl_n, kl_i, kl_r, kl_o, inA_i, inA_s, inA_b, inA_z, inA_l, inA_0, inA_4, inA_5, inA_6, inA_7, inA_8, inA_9, inA_10, al_0, al_1, al_2, al_4, al_5, al_98, bsP_2, bsP_3, wr_same, wr_wr, wr_ne, up_same, up_ne, Nat.reduceAdd, Int.reduceAdd, Int.reduceSub, Int.reduceMul, Int.reduceLT, Int.reduceLE, Int.reduceEq, Int.reduceNeg, Int.reduceToNat, Nat.reduceLT, Nat.reduceLeDiff, Nat.reduceEqDiff, ↓reduceIte, true_and, and_true, not_true_eq_false, not_false_eq_true, eq_self, or_true, true_or, or_false, false_or, if_true, if_false, Int.toNat_natCast, w_ite, Nat.add_zero, reduceCtorEq, ne_eq, g0, k2, k3, Option.isSome]
          have u1 : ∀ x, x ≠ m + 6578 → x ≠ m + 6579 → wr (wr I2 (m + 6578) (up (I2 (m + 6578)) n (w (bgn rs n)))) (m + 6579) (up (I2 (m + 6579)) n (w (-1))) x = I2 x := fun x h1 h2 => by rw [wr_ne h2, wr_ne h1]
          have u2 : wr (wr I2 (m + 6578) (up (I2 (m + 6578)) n (w (bgn rs n)))) (m + 6579) (up (I2 (m + 6579)) n (w (-1))) (m + 6578) = up (I2 (m + 6578)) n (w (bgn rs n)) := by rw [wr_ne (by omega), wr_same]
          have u3 : wr (wr I2 (m + 6578) (up (I2 (m + 6578)) n (w (bgn rs n)))) (m + 6579) (up (I2 (m + 6579)) n (w (-1))) (m + 6579) = up (I2 (m + 6579)) n (w (-1)) := wr_same
          generalize wr (wr I2 (m + 6578) (up (I2 (m + 6578)) n (w (bgn rs n)))) (m + 6579) (up (I2 (m + 6579)) n (w (-1))) = I3 at u1 u2 u3 ⊢
          have hF3 : LyF I I3 m := (hF.trans hF2.ly).trans ⟨fun x h1 h2 => u1 x (by omega) (by omega), fun j hj => by rw [u1 _ (by omega) (by omega)]⟩
          have e22' : I3 m 22 = w l := by rw [u1 _ (by omega) (by omega), hF2.2 22 (by omega)]; exact e22
          rw [q_194_63]
          simp (disch := omega) only [q_194_0, q_194_1, q_194_4, q_194_5, q_194_8, q_194_9, q_194_10, q_194_11, q_194_14, q_194_15, q_194_16, q_194_17, q_194_19, q_194_20, q_194_23, q_194_26, q_194_27, q_194_28, q_194_29, q_194_32, q_194_34, q_194_35, q_194_38, q_194_39, q_194_40, q_194_41, q_194_42, q_194_45, q_194_46, q_194_48, q_194_51, q_194_52, q_194_55, q_194_58, q_194_59, q_194_60, q_194_61, q_194_65, q_194_68, q_194_70, q_194_71, q_194_74, q_194_77, q_194_78, q_194_81, q_194_82, q_194_84, q_194_85, q_194_86, q_194_89, q_194_91, q_194_92, q_194_93, q_194_96, q_194_99, q_194_100, q_194_102, q_194_105, q_194_106, q_194_109, q_194_112, q_194_113, q_194_114, q_194_115, q_194_118, q_194_121, q_194_e, va_rf_s, bz_0, bz_1, bz_ok, bb_ok, Nat.add_assoc, w_lt, w_add, w_sub, w_mul, w_div, em_def, w_eq, w_inT, ↓ilt_t, ↓ilt_f, ↓ieq_t, ↓ieq_f, ntT, w_b, w_ix, kx_v, kx_n, kl_n, kl_i, kl_r, kl_o, inA_i, inA_s, inA_b, inA_z, inA_l, inA_0, inA_4, inA_5, inA_6, inA_7, inA_8, inA_9, inA_10, al_0, al_1, al_2, al_4, al_5, al_98, bsP_2, bsP_3, wr_same, wr_wr, wr_ne, up_same, up_ne, Nat.reduceAdd, Int.reduceAdd, Int.reduceSub, Int.reduceMul, Int.reduceLT, Int.reduceLE, Int.reduceEq, Int.reduceNeg, Int.reduceToNat, Nat.reduceLT, Nat.reduceLeDiff, Nat.reduceEqDiff, ↓reduceIte, true_and, and_true, not_true_eq_false, not_false_eq_true, eq_self, or_true, true_or, or_false, false_or, if_true, if_false, Int.toNat_natCast, w_ite, Nat.add_zero, reduceCtorEq, ne_eq, g0, Int.add_zero]
          refine ih' I3 _ hF3 e22' (fun n' hn' => ?_)
          by_cases c : n' = n
          · subst c
            exact ⟨by rw [u2, up_same], fun _ => by rw [u3, up_same], fun t ht => by rw [hT] at ht; cases ht⟩
          · exact (hld n' (by omega)).keep (fun j hj => by rw [u1 _ (by omega) (by omega), hF2.1 _ (by omega) (by omega)]) (by rw [u2, up_ne c, hF2.1 _ (by omega) (by omega)]) (by rw [u3, up_ne c, hF2.1 _ (by omega) (by omega)])
        | some y =>
          obtain ⟨t, a⟩ := y
          have hT : T rs (n : Int) = some t := by rw [T_sd, hs]; rfl
          have hto := T_ok hr hT
          have ebn := bgn_s hT
          obtain ⟨e16, eT, -⟩ := hS2.1 t a hs
          have ih' := fun I3 o5 h1 h2 h3 => ih (n + 1) I3 (some (.int (w 1))) o5 (by omega) h1 h2 h3
          rw [ebn] at ih'
          simp only [Int.natCast_add, Int.natCast_one] at ih'
          simp (disch := omega) only [q_194_0, q_194_1, q_194_4, q_194_5, q_194_8, q_194_9, q_194_10, q_194_11, q_194_14, q_194_15, q_194_16, q_194_17, q_194_19, q_194_20, q_194_23, q_194_26, q_194_27, q_194_28, q_194_29, q_194_32, q_194_34, q_194_35, q_194_38, q_194_39, q_194_40, q_194_41, q_194_42, q_194_45, q_194_46, q_194_48, q_194_51, q_194_52, q_194_55, q_194_58, q_194_59, q_194_60, q_194_61, q_194_65, q_194_68, q_194_70, q_194_71, q_194_74, q_194_77, q_194_78, q_194_81, q_194_82, q_194_84, q_194_85, q_194_86, q_194_89, q_194_91, q_194_92, q_194_93, q_194_96, q_194_99, q_194_100, q_194_102, q_194_105, q_194_106, q_194_109, q_194_112, q_194_113, q_194_114, q_194_115, q_194_118, q_194_121, q_194_e, va_rf_s, bz_0, bz_1, bz_ok, bb_ok, Nat.add_assoc, w_lt, w_add, w_sub, w_mul, w_div, em_def, w_eq, w_inT, ↓ilt_t, ↓ilt_f, ↓ieq_t, ↓ieq_f, ntT, w_b, w_ix, kx_v, kx_n, kl_n, kl_i, kl_r, kl_o, inA_i, inA_s, inA_b, inA_z, inA_l, inA_0, inA_4, inA_5, inA_6, inA_7, inA_8, inA_9, inA_10, al_0, al_1, al_2, al_4, al_5, al_98, bsP_2, bsP_3, wr_same, wr_wr, wr_ne, up_same, up_ne, Nat.reduceAdd, Int.reduceAdd, Int.reduceSub, Int.reduceMul, Int.reduceLT, Int.reduceLE, Int.reduceEq, Int.reduceNeg, Int.reduceToNat, Nat.reduceLT, Nat.reduceLeDiff, Nat.reduceEqDiff, ↓reduceIte, true_and, and_true, not_true_eq_false, not_false_eq_true, eq_self, or_true, true_or, or_false, false_or, if_true, if_false, Int.toNat_natCast, w_ite, Nat.add_zero, reduceCtorEq, ne_eq, g0, k2, k3, Option.isSome, e16]
          have u1 : ∀ x, x ≠ m + 6578 → x ≠ m + 6579 → wr (wr I2 (m + 6578) (up (I2 (m + 6578)) n (w (bgn rs n)))) (m + 6579) (up (I2 (m + 6579)) n (w t.length)) x = I2 x := fun x h1 h2 => by rw [wr_ne h2, wr_ne h1]
          have u2 : wr (wr I2 (m + 6578) (up (I2 (m + 6578)) n (w (bgn rs n)))) (m + 6579) (up (I2 (m + 6579)) n (w t.length)) (m + 6578) = up (I2 (m + 6578)) n (w (bgn rs n)) := by rw [wr_ne (by omega), wr_same]
          have u3 : wr (wr I2 (m + 6578) (up (I2 (m + 6578)) n (w (bgn rs n)))) (m + 6579) (up (I2 (m + 6579)) n (w t.length)) (m + 6579) = up (I2 (m + 6579)) n (w t.length) := wr_same
          generalize wr (wr I2 (m + 6578) (up (I2 (m + 6578)) n (w (bgn rs n)))) (m + 6579) (up (I2 (m + 6579)) n (w t.length)) = I3 at u1 u2 u3 ⊢
          have hF3 : LyF I I3 m := (hF.trans hF2.ly).trans ⟨fun x h1 h2 => u1 x (by omega) (by omega), fun j hj => by rw [u1 _ (by omega) (by omega)]⟩
          have e22' : I3 m 22 = w l := by rw [u1 _ (by omega) (by omega), hF2.2 22 (by omega)]; exact e22
          have e16' : I3 m 16 = w t.length := by rw [u1 _ (by omega) (by omega)]; exact e16
          have eT' : Txt (I3 (m + 6541)) 0 t := by rw [u1 _ (by omega) (by omega)]; exact eT
          have cp : ∀ (j c : Nat), c + j = t.length → XX (d + 63) 194 63 [some (.ref m), some (.int (w l)), some (.int (w (bgn rs n))), some (.int (w n)), some (.int (w 1)), some (.int (w c))] [] (mk S (wr I3 (m + 6577) (pw (I3 (m + 6577)) (bgn rs n) (t.take c))) L R G) Q := by
            intro j
            induction j with
            | zero =>
              intro c hc
              have : c = t.length := by omega
              subst this
              rw [List.take_length]
              have v1 : ∀ x, x ≠ m + 6577 → wr I3 (m + 6577) (pw (I3 (m + 6577)) (bgn rs n) t) x = I3 x := fun x hx => wr_ne hx
              have v2 : wr I3 (m + 6577) (pw (I3 (m + 6577)) (bgn rs n) t) (m + 6577) = pw (I3 (m + 6577)) (bgn rs n) t := wr_same
              generalize wr I3 (m + 6577) (pw (I3 (m + 6577)) (bgn rs n) t) = I4 at v1 v2 ⊢
              have e16'' : I4 m 16 = w t.length := by rw [v1 _ (by omega)]; exact e16'
              rw [q_194_63]
              simp (disch := omega) only [q_194_0, q_194_1, q_194_4, q_194_5, q_194_8, q_194_9, q_194_10, q_194_11, q_194_14, q_194_15, q_194_16, q_194_17, q_194_19, q_194_20, q_194_23, q_194_26, q_194_27, q_194_28, q_194_29, q_194_32, q_194_34, q_194_35, q_194_38, q_194_39, q_194_40, q_194_41, q_194_42, q_194_45, q_194_46, q_194_48, q_194_51, q_194_52, q_194_55, q_194_58, q_194_59, q_194_60, q_194_61, q_194_65, q_194_68, q_194_70, q_194_71, q_194_74, q_194_77, q_194_78, q_194_81, q_194_82, q_194_84, q_194_85, q_194_86, q_194_89, q_194_91, q_194_92, q_194_93, q_194_96, q_194_99, q_194_100, q_194_102, q_194_105, q_194_106, q_194_109, q_194_112, q_194_113, q_194_114, q_194_115, q_194_118, q_194_121, q_194_e, va_rf_s, bz_0, bz_1, bz_ok, bb_ok, Nat.add_assoc, w_lt, w_add, w_sub, w_mul, w_div, em_def, w_eq, w_inT, ↓ilt_t, ↓ilt_f, ↓ieq_t, ↓ieq_f, ntT, w_b, w_ix, kx_v, kx_n, kl_n, kl_i, kl_r, kl_o, inA_i, inA_s, inA_b, inA_z, inA_l, inA_0, inA_4, inA_5, inA_6, inA_7, inA_8, inA_9, inA_10, al_0, al_1, al_2, al_4, al_5, al_98, bsP_2, bsP_3, wr_same, wr_wr, wr_ne, up_same, up_ne, Nat.reduceAdd, Int.reduceAdd, Int.reduceSub, Int.reduceMul, Int.reduceLT, Int.reduceLE, Int.reduceEq, Int.reduceNeg, Int.reduceToNat, Nat.reduceLT, Nat.reduceLeDiff, Nat.reduceEqDiff, ↓reduceIte, true_and, and_true, not_true_eq_false, not_false_eq_true, eq_self, or_true, true_or, or_false, false_or, if_true, if_false, Int.toNat_natCast, w_ite, Nat.add_zero, reduceCtorEq, ne_eq, g0, e16'']
              refine ih' I4 _ (hF3.trans ⟨fun x h1 h2 => v1 x (by omega), fun j hj => by rw [v1 _ (by omega)]⟩) (by rw [v1 _ (by omega)]; exact e22') (fun n' hn' => ?_)
              by_cases c : n' = n
              · subst c
                refine ⟨by rw [v1 _ (by omega), u2, up_same], (fun h => by rw [hT] at h; cases h), fun t' ht' => ?_⟩
                rw [hT] at ht'
                cases ht'
                exact ⟨by rw [v1 _ (by omega), u3, up_same], by rw [v2]; exact pw_txt _ _ _⟩
              · have hbm := bgn_mono (rs := rs) (show n' + 1 ≤ n by omega)
                exact (hld n' (by omega)).keep (fun j hj => by rw [v2, pw_out (by omega), u1 _ (by omega) (by omega), hF2.1 _ (by omega) (by omega)]) (by rw [v1 _ (by omega), u2, up_ne c, hF2.1 _ (by omega) (by omega)]) (by rw [v1 _ (by omega), u3, up_ne c, hF2.1 _ (by omega) (by omega)])
            | succ j jh =>
              intro c hc
              have hcl : c < t.length := by omega
              have jh' := jh (c + 1) (by omega)
              rw [← pw_snoc hcl] at jh'
              simp only [Int.natCast_add, Int.natCast_one] at jh'
              have hch := eT' c hcl
              rw [Nat.zero_add] at hch
              have hbd := hto.1.get hcl
              have e6 : ((bgn rs n : Int) + c).toNat = bgn rs n + c := by omega
              rw [q_194_63]
              simp (disch := omega) only [q_194_0, q_194_1, q_194_4, q_194_5, q_194_8, q_194_9, q_194_10, q_194_11, q_194_14, q_194_15, q_194_16, q_194_17, q_194_19, q_194_20, q_194_23, q_194_26, q_194_27, q_194_28, q_194_29, q_194_32, q_194_34, q_194_35, q_194_38, q_194_39, q_194_40, q_194_41, q_194_42, q_194_45, q_194_46, q_194_48, q_194_51, q_194_52, q_194_55, q_194_58, q_194_59, q_194_60, q_194_61, q_194_65, q_194_68, q_194_70, q_194_71, q_194_74, q_194_77, q_194_78, q_194_81, q_194_82, q_194_84, q_194_85, q_194_86, q_194_89, q_194_91, q_194_92, q_194_93, q_194_96, q_194_99, q_194_100, q_194_102, q_194_105, q_194_106, q_194_109, q_194_112, q_194_113, q_194_114, q_194_115, q_194_118, q_194_121, q_194_e, va_rf_s, bz_0, bz_1, bz_ok, bb_ok, Nat.add_assoc, w_lt, w_add, w_sub, w_mul, w_div, em_def, w_eq, w_inT, ↓ilt_t, ↓ilt_f, ↓ieq_t, ↓ieq_f, ntT, w_b, w_ix, kx_v, kx_n, kl_n, kl_i, kl_r, kl_o, inA_i, inA_s, inA_b, inA_z, inA_l, inA_0, inA_4, inA_5, inA_6, inA_7, inA_8, inA_9, inA_10, al_0, al_1, al_2, al_4, al_5, al_98, bsP_2, bsP_3, wr_same, wr_wr, wr_ne, up_same, up_ne, Nat.reduceAdd, Int.reduceAdd, Int.reduceSub, Int.reduceMul, Int.reduceLT, Int.reduceLE, Int.reduceEq, Int.reduceNeg, Int.reduceToNat, Nat.reduceLT, Nat.reduceLeDiff, Nat.reduceEqDiff, ↓reduceIte, true_and, and_true, not_true_eq_false, not_false_eq_true, eq_self, or_true, true_or, or_false, false_or, if_true, if_false, Int.toNat_natCast, w_ite, Nat.add_zero, reduceCtorEq, ne_eq, g0, e16', y1, k1, hch, e6]
              exact jh'
          have := cp t.length 0 (by omega)
          rw [pw_zero, wr_self] at this
          exact this
    simp (disch := omega) only [q_194_0, q_194_1, q_194_4, q_194_5, q_194_8, q_194_9, q_194_10, q_194_11, q_194_14, q_194_15, q_194_16, q_194_17, q_194_19, q_194_20, q_194_23, q_194_26, q_194_27, q_194_28, q_194_29, q_194_32, q_194_34, q_194_35, q_194_38, q_194_39, q_194_40, q_194_41, q_194_42, q_194_45, q_194_46, q_194_48, q_194_51, q_194_52, q_194_55, q_194_58, q_194_59, q_194_60, q_194_61, q_194_65, q_194_68, q_194_70, q_194_71, q_194_74, q_194_77, q_194_78, q_194_81, q_194_82, q_194_84, q_194_85, q_194_86, q_194_89, q_194_91, q_194_92, q_194_93, q_194_96, q_194_99, q_194_100, q_194_102, q_194_105, q_194_106, q_194_109, q_194_112, q_194_113, q_194_114, q_194_115, q_194_118, q_194_121, q_194_e, va_rf_s, bz_0, bz_1, bz_ok, bb_ok, Nat.add_assoc, w_lt, w_add, w_sub, w_mul, w_div, em_def, w_eq, w_inT, ↓ilt_t, ↓ilt_f, ↓ieq_t, ↓ieq_f, ntT, w_b, w_ix, kx_v, kx_n, kl_n, kl_i, kl_r, kl_o, inA_i, inA_s, inA_b, inA_z, inA_l, inA_0, inA_4, inA_5, inA_6, inA_7, inA_8, inA_9, inA_10, al_0, al_1, al_2, al_4, al_5, al_98, bsP_2, bsP_3, wr_same, wr_wr, wr_ne, up_same, up_ne, Nat.reduceAdd, Int.reduceAdd, Int.reduceSub, Int.reduceMul, Int.reduceLT, Int.reduceLE, Int.reduceEq, Int.reduceNeg, Int.reduceToNat, Nat.reduceLT, Nat.reduceLeDiff, Nat.reduceEqDiff, ↓reduceIte, true_and, and_true, not_true_eq_false, not_false_eq_true, eq_self, or_true, true_or, or_false, false_or, if_true, if_false, Int.toNat_natCast, w_ite, Nat.add_zero, reduceCtorEq, ne_eq, g0, h22]
    have u1 : ∀ x, x ≠ m → wr I m (up (I m) 22 (w l)) x = I x := fun x hx => wr_ne hx
    have u2 : ∀ j, j ≠ 22 → wr I m (up (I m) 22 (w l)) m j = I m j := fun j hj => by rw [wr_same, up_ne hj]
    have u3 : wr I m (up (I m) 22 (w l)) m 22 = w l := by rw [wr_same, up_same]
    generalize wr I m (up (I m) 22 (w l)) = I1 at u1 u2 u3 ⊢
    exact lp (h + 1) 0 I1 none none (by omega) ⟨fun x h1 h2 => u1 x h1, fun j hj => u2 j (by omega)⟩ u3 (fun n' hn' => by omega)
/-- all that a language says -/
theorem MS.lays (h : MS S I R G m s) {l : Int} (cl : inL l) (hQ : ∀ I' : MI, LyF I I' m → MS S I' R G m s → MFr I L I' L m → I' m 22 = w l → LdA I' m (rlz s l) s.2.1.1 → Q (.inl none) (mk S I' L R G)) : XC (d + 63) 194 [.ref m, .int (w l)] (mk S I L R G) Q := by
  have h9 := h.2.2.2.2.2.2.2.2
  obtain ⟨h13, p1, p2⟩ := h.2.2.2.2.2.1
  have el : ((l.toNat : Nat) : Int) = l := by omega
  have fin : ∀ I' : MI, LyF I I' m → I' m 22 = w (l.toNat : Nat) → LdA I' m (rlz s l) s.2.1.1 → Q (.inl none) (mk S I' L R G) := fun I' hF e22 hA => by
    refine hQ I' hF (h.sc (fun a a1 a2 => hF.1 a a1 (by omega)) (fun j j1 j2 => hF.2 j (by omega)) (Or.inr ⟨l.toNat, by omega, e22, hA⟩)) (fun a ha => ⟨hF.1 a (by omega) (by omega), rfl⟩) (by rw [e22, el]) hA
  rcases h9 with h22 | ⟨l', hl', h22, hA⟩
  · have := sp_194 (d := d) (Q := Q) (L := L) (G := G) (l := l.toNat) (z0 := -1) h.1 (by omega) (h.rs cl) h13 p2 h22 (by decide) (fun e => by omega) fin
    rw [el] at this
    exact this
  · have := sp_194 (d := d) (Q := Q) (L := L) (G := G) (l := l.toNat) (z0 := l') h.1 (by omega) (h.rs cl) h13 p2 h22 (by omega) (fun e => by
      have : l' = l.toNat := by omega
      subst this
      exact hA) fin
    rw [el] at this
    exact this
end

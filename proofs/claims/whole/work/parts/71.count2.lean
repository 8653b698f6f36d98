/-! the count of words: a text, the first of the most, all texts -/
def WSt (I : MI) (u un : Nat) (E : Nat → Option Ent) (W : List (List Int)) (P : List Int → Nat → Prop) : Prop := HTab I u E ∧ (∀ s e, E s = some e → P e.1 e.2.1) ∧ HGood hsn E W ∧ HDist W un ∧ I u 3 = w un
theorem wsum_len : ∀ W : List (List Int), W.length ≤ wsum W
  | [] => Nat.le_refl _
  | x :: W => by rw [wsum_cons, List.length_cons]; have := wsum_len W; omega
def wOk (W : List (List Int)) : Prop := wsum W ≤ 101101 ∧ ∀ x ∈ W, x ≠ [] ∧ ∀ b ∈ x, 97 ≤ b ∧ b ≤ 122
theorem wOk.left {V W : List (List Int)} (h : wOk (V ++ W)) : wOk V := by
  obtain ⟨h1, h2⟩ := h
  rw [wsum_app] at h1
  exact ⟨by omega, fun x hx => h2 x (List.mem_append_left _ hx)⟩
theorem take_snoc {t : List Int} {f k : Nat} (h1 : f ≤ k) (h2 : k < t.length) : (t.drop f).take (k - f) ++ [t.getD k 0] = (t.drop f).take (k + 1 - f) := by
  rw [show k + 1 - f = (k - f) + 1 by omega, List.take_add_one, List.getElem?_drop, show f + (k - f) = k by omega, List.getElem?_eq_getElem h2, List.getD_eq_getElem?_getD, List.getElem?_eq_getElem h2]
  rfl
section
variable {d : Nat} {Q : XO → Hp → Prop} {S : SH} {I : MI} {L : ML} {R : MR} {G : MG} {A : Hp}
theorem sp_98 {u b n1 un p : Nat} {E : Nat → Option Ent} {W : List (List Int)} {t : List Int} {P : List Int → Nat → Prop} (hS : WcS S u) (hb : S b = some (.inl (2, n1))) (hn1 : n1 < 1000000) (hub : b < u ∨ u + 3 < b)
    (hPt : ∀ i x, i + x.length ≤ t.length → x = (t.drop i).take x.length → P x (p + i)) (hP : ∀ y q, P y q → Txt (I b) q y ∧ q + y.length ≤ n1) (hpt : p + t.length ≤ n1) (ht : Txt (I b) p t) (htb : ∀ c ∈ t, -128 ≤ c ∧ c < 128) (hW : wOk (W ++ wds t)) (hT : WSt I u un E W P)
    (hQ : ∀ (I' : MI) (E' : Nat → Option Ent) (un' : Nat), (∀ a, (a < u ∨ u + 3 < a) → I' a = I a) → WSt I' u un' E' (W ++ wds t) P → Q (.inl none) (mk S I' L R G)) :
    XC (d + 2) 98 [.ref u, .ref b, .int (w p), .int (w t.length)] (mk S I L R G) Q := by
  obtain ⟨g0, g1, g2, g3⟩ := id hS
  have cw : ∀ (f k : Nat) (I1 : MI) (E1 : Nat → Option Ent) (un1 : Nat) (W1 : List (List Int)) (r : List Int) (Q' : XO → Hp → Prop), f < k → k ≤ t.length → (∀ a, (a < u ∨ u + 3 < a) → I1 a = I a) → WSt I1 u un1 E1 W1 P → W1 ++ ((t.drop f).take (k - f) :: wdsA r []) = W ++ wds t →
      (∀ (I' : MI) (E' : Nat → Option Ent) (un' : Nat), (∀ a, (a < u ∨ u + 3 < a) → I' a = I a) → WSt I' u un' E' (W1 ++ [(t.drop f).take (k - f)]) P → Q' (.inl none) (mk S I' L R G)) → XC (d + 1) 99 [.ref u, .ref b, .int (w (p + f : Nat)), .int (w ((k - f : Nat) : Int))] (mk S I1 L R G) Q' := by
    intro f k I1 E1 un1 W1 r Q' hfk hk hf ⟨s1, s2, s3, s4, s5⟩ hw hq
    have hlen : ((t.drop f).take (k - f)).length = k - f := by rw [List.length_take, List.length_drop]; omega
    have hw1 : wOk W1 := by rw [← hw] at hW; exact hW.left
    have hacc : bLet ((t.drop f).take (k - f)) := (hW.2 _ (by rw [← hw]; simp)).2
    obtain ⟨D, d1, d2, d3⟩ := id s4
    have hfew := wfew hw1.1 hw1.2 d1 (fun x hx => (d2 x).mp hx)
    have := sp_99 (d := d) (Q := Q') (S := S) (I := I1) (L := L) (R := R) (G := G) (u := u) (b := b) (n1 := n1) (un := un1) (p := p + f) (E := E1) (W := W1) (x := (t.drop f).take (k - f)) (P := P) hS hb hn1 hub (hPt f _ (by rw [hlen]; omega) (by rw [hlen])) (fun y q hy => by rw [hf b hub]; exact hP y q hy) s1 s2 s3 s4 s5 (by omega) hacc (fun y hy => (hw1.2 y hy).2) (by have := wsum_len W1; have := hw1.1; omega) (fun I' E' un' f1 f2 f3 f4 f5 f6 => hq I' E' un' (fun a ha => (f1 a ha).trans (hf a ha)) ⟨f2, f3, f4, f5, f6⟩)
    rw [hlen] at this
    exact this
  have lp : ∀ (j k f : Nat) (I1 : MI) (E1 : Nat → Option Ent) (un1 : Nat) (W1 : List (List Int)), k + j = t.length → f ≤ k → (∀ a, (a < u ∨ u + 3 < a) → I1 a = I a) → WSt I1 u un1 E1 W1 P → W1 ++ wdsA (t.drop k) ((t.drop f).take (k - f)) = W ++ wds t → XX (d + 2) 98 16 [some (.ref u), some (.ref b), some (.int (w p)), some (.int (w t.length)), some (.int (w (p + t.length : Nat))), some (.int (w (p + f : Nat))), some (.int (w (p + k : Nat)))] [] (mk S I1 L R G) Q := by
    intro j
    induction j with
    | zero =>
      intro k f I1 E1 un1 W1 hk hf h1 h2 h3
      have : k = t.length := by omega
      subst this
      rw [List.drop_eq_nil_of_le (Nat.le_refl _)] at h3
      unfold wdsA at h3
      by_cases c : f < t.length
      · have hne : (t.drop f).take (t.length - f) ≠ [] := fun h => by
          have := congrArg List.length h
          rw [List.length_take, List.length_drop, List.length_nil] at this
          omega
        rw [if_neg hne] at h3
        have e1 : ((p + t.length : Nat) : Int) - ((p + f : Nat) : Int) = ((t.length - f : Nat) : Int) := by omega
        have hcw := cw f t.length I1 E1 un1 W1 [] (XK (d + 2) 98 58 [some (.ref u), some (.ref b), some (.int (w p)), some (.int (w t.length)), some (.int (w (p + t.length : Nat))), some (.int (w (p + f : Nat))), some (.int (w (p + t.length : Nat)))] [] Q) c (Nat.le_refl _) h1 h2 h3 (fun I' E' un' f1 f2 => ?_)
        · generalize hq1 : p + t.length = q1 at *
          generalize hq2 : p + f = q2 at *
          rw [q_98_16]
          simp (disch := omega) only [q_98_0, q_98_1, q_98_2, q_98_3, q_98_4, q_98_5, q_98_8, q_98_10, q_98_11, q_98_13, q_98_14, q_98_18, q_98_20, q_98_23, q_98_25, q_98_27, q_98_30, q_98_31, q_98_33, q_98_34, q_98_36, q_98_39, q_98_42, q_98_44, q_98_46, q_98_49, q_98_50, q_98_51, q_98_53, q_98_55, q_98_57, q_98_58, q_98_61, q_98_63, q_98_64, q_98_65, q_98_67, q_98_70, q_98_73, q_98_e, va_rf_s, bz_0, bz_1, bz_ok, bb_ok, Nat.add_assoc, w_lt, w_add, w_sub, w_mul, w_div, em_def, w_eq, w_inT, ↓ilt_t, ↓ilt_f, ↓ieq_t, ↓ieq_f, ntT, w_b, w_ix, kx_v, kx_n, kl_n, kl_i, kl_r, kl_o, inA_i, inA_s, inA_b, inA_z, inA_l, inA_0, inA_4, inA_5, inA_6, inA_7, inA_8, inA_9, inA_10, al_0, al_1, al_2, al_4, al_5, al_98, bsP_2, bsP_3, wr_same, wr_wr, wr_ne, up_same, up_ne, Nat.reduceAdd, Int.reduceAdd, Int.reduceSub, Int.reduceMul, Int.reduceLT, Int.reduceLE, Int.reduceEq, Int.reduceNeg, Int.reduceToNat, Nat.reduceLT, Nat.reduceLeDiff, Nat.reduceEqDiff, ↓reduceIte, true_and, and_true, not_true_eq_false, not_false_eq_true, eq_self, or_true, true_or, or_false, false_or, if_true, if_false, Int.toNat_natCast, w_ite, Nat.add_zero, reduceCtorEq, ne_eq, hb, g0, e1]
          exact hcw
        · rw [h3] at f2
          generalize hq1 : p + t.length = q1 at *
          generalize hq2 : p + f = q2 at *
          simp (disch := omega) only [q_98_0, q_98_1, q_98_2, q_98_3, q_98_4, q_98_5, q_98_8, q_98_10, q_98_11, q_98_13, q_98_14, q_98_18, q_98_20, q_98_23, q_98_25, q_98_27, q_98_30, q_98_31, q_98_33, q_98_34, q_98_36, q_98_39, q_98_42, q_98_44, q_98_46, q_98_49, q_98_50, q_98_51, q_98_53, q_98_55, q_98_57, q_98_58, q_98_61, q_98_63, q_98_64, q_98_65, q_98_67, q_98_70, q_98_73, q_98_e, va_rf_s, bz_0, bz_1, bz_ok, bb_ok, Nat.add_assoc, w_lt, w_add, w_sub, w_mul, w_div, em_def, w_eq, w_inT, ↓ilt_t, ↓ilt_f, ↓ieq_t, ↓ieq_f, ntT, w_b, w_ix, kx_v, kx_n, kl_n, kl_i, kl_r, kl_o, inA_i, inA_s, inA_b, inA_z, inA_l, inA_0, inA_4, inA_5, inA_6, inA_7, inA_8, inA_9, inA_10, al_0, al_1, al_2, al_4, al_5, al_98, bsP_2, bsP_3, wr_same, wr_wr, wr_ne, up_same, up_ne, Nat.reduceAdd, Int.reduceAdd, Int.reduceSub, Int.reduceMul, Int.reduceLT, Int.reduceLE, Int.reduceEq, Int.reduceNeg, Int.reduceToNat, Nat.reduceLT, Nat.reduceLeDiff, Nat.reduceEqDiff, ↓reduceIte, true_and, and_true, not_true_eq_false, not_false_eq_true, eq_self, or_true, true_or, or_false, false_or, if_true, if_false, Int.toNat_natCast, w_ite, Nat.add_zero, reduceCtorEq, ne_eq]
          rw [q_98_16]
          simp (disch := omega) only [q_98_0, q_98_1, q_98_2, q_98_3, q_98_4, q_98_5, q_98_8, q_98_10, q_98_11, q_98_13, q_98_14, q_98_18, q_98_20, q_98_23, q_98_25, q_98_27, q_98_30, q_98_31, q_98_33, q_98_34, q_98_36, q_98_39, q_98_42, q_98_44, q_98_46, q_98_49, q_98_50, q_98_51, q_98_53, q_98_55, q_98_57, q_98_58, q_98_61, q_98_63, q_98_64, q_98_65, q_98_67, q_98_70, q_98_73, q_98_e, va_rf_s, bz_0, bz_1, bz_ok, bb_ok, Nat.add_assoc, w_lt, w_add, w_sub, w_mul, w_div, em_def, w_eq, w_inT, ↓ilt_t, ↓ilt_f, ↓ieq_t, ↓ieq_f, ntT, w_b, w_ix, kx_v, kx_n, kl_n, kl_i, kl_r, kl_o, inA_i, inA_s, inA_b, inA_z, inA_l, inA_0, inA_4, inA_5, inA_6, inA_7, inA_8, inA_9, inA_10, al_0, al_1, al_2, al_4, al_5, al_98, bsP_2, bsP_3, wr_same, wr_wr, wr_ne, up_same, up_ne, Nat.reduceAdd, Int.reduceAdd, Int.reduceSub, Int.reduceMul, Int.reduceLT, Int.reduceLE, Int.reduceEq, Int.reduceNeg, Int.reduceToNat, Nat.reduceLT, Nat.reduceLeDiff, Nat.reduceEqDiff, ↓reduceIte, true_and, and_true, not_true_eq_false, not_false_eq_true, eq_self, or_true, true_or, or_false, false_or, if_true, if_false, Int.toNat_natCast, w_ite, Nat.add_zero, reduceCtorEq, ne_eq]
          exact hQ I' E' un' f1 f2
      · have hnil : (t.drop f).take (t.length - f) = [] := by rw [show t.length - f = 0 by omega, List.take_zero]
        rw [hnil, if_pos rfl, List.append_nil] at h3
        rw [h3] at h2
        have : f = t.length := by omega
        subst this
        generalize hq1 : p + t.length = q1 at *
        rw [q_98_16]
        simp (disch := omega) only [q_98_0, q_98_1, q_98_2, q_98_3, q_98_4, q_98_5, q_98_8, q_98_10, q_98_11, q_98_13, q_98_14, q_98_18, q_98_20, q_98_23, q_98_25, q_98_27, q_98_30, q_98_31, q_98_33, q_98_34, q_98_36, q_98_39, q_98_42, q_98_44, q_98_46, q_98_49, q_98_50, q_98_51, q_98_53, q_98_55, q_98_57, q_98_58, q_98_61, q_98_63, q_98_64, q_98_65, q_98_67, q_98_70, q_98_73, q_98_e, va_rf_s, bz_0, bz_1, bz_ok, bb_ok, Nat.add_assoc, w_lt, w_add, w_sub, w_mul, w_div, em_def, w_eq, w_inT, ↓ilt_t, ↓ilt_f, ↓ieq_t, ↓ieq_f, ntT, w_b, w_ix, kx_v, kx_n, kl_n, kl_i, kl_r, kl_o, inA_i, inA_s, inA_b, inA_z, inA_l, inA_0, inA_4, inA_5, inA_6, inA_7, inA_8, inA_9, inA_10, al_0, al_1, al_2, al_4, al_5, al_98, bsP_2, bsP_3, wr_same, wr_wr, wr_ne, up_same, up_ne, Nat.reduceAdd, Int.reduceAdd, Int.reduceSub, Int.reduceMul, Int.reduceLT, Int.reduceLE, Int.reduceEq, Int.reduceNeg, Int.reduceToNat, Nat.reduceLT, Nat.reduceLeDiff, Nat.reduceEqDiff, ↓reduceIte, true_and, and_true, not_true_eq_false, not_false_eq_true, eq_self, or_true, true_or, or_false, false_or, if_true, if_false, Int.toNat_natCast, w_ite, Nat.add_zero, reduceCtorEq, ne_eq, hb]
        rw [q_98_16]
        simp (disch := omega) only [q_98_0, q_98_1, q_98_2, q_98_3, q_98_4, q_98_5, q_98_8, q_98_10, q_98_11, q_98_13, q_98_14, q_98_18, q_98_20, q_98_23, q_98_25, q_98_27, q_98_30, q_98_31, q_98_33, q_98_34, q_98_36, q_98_39, q_98_42, q_98_44, q_98_46, q_98_49, q_98_50, q_98_51, q_98_53, q_98_55, q_98_57, q_98_58, q_98_61, q_98_63, q_98_64, q_98_65, q_98_67, q_98_70, q_98_73, q_98_e, va_rf_s, bz_0, bz_1, bz_ok, bb_ok, Nat.add_assoc, w_lt, w_add, w_sub, w_mul, w_div, em_def, w_eq, w_inT, ↓ilt_t, ↓ilt_f, ↓ieq_t, ↓ieq_f, ntT, w_b, w_ix, kx_v, kx_n, kl_n, kl_i, kl_r, kl_o, inA_i, inA_s, inA_b, inA_z, inA_l, inA_0, inA_4, inA_5, inA_6, inA_7, inA_8, inA_9, inA_10, al_0, al_1, al_2, al_4, al_5, al_98, bsP_2, bsP_3, wr_same, wr_wr, wr_ne, up_same, up_ne, Nat.reduceAdd, Int.reduceAdd, Int.reduceSub, Int.reduceMul, Int.reduceLT, Int.reduceLE, Int.reduceEq, Int.reduceNeg, Int.reduceToNat, Nat.reduceLT, Nat.reduceLeDiff, Nat.reduceEqDiff, ↓reduceIte, true_and, and_true, not_true_eq_false, not_false_eq_true, eq_self, or_true, true_or, or_false, false_or, if_true, if_false, Int.toNat_natCast, w_ite, Nat.add_zero, reduceCtorEq, ne_eq]
        exact hQ I1 E1 un1 h1 h2
    | succ j ih =>
      intro k f I1 E1 un1 W1 hk hf h1 h2 h3
      have e0 : I1 b (p + k) = w (t.getD k 0) := by rw [h1 b hub]; exact ht k (by omega)
      have hbd := htb (t.getD k 0) (by rw [List.getD_eq_getElem?_getD, List.getElem?_eq_getElem (by omega)]; exact List.getElem_mem _)
      rw [drop_cons (by omega : k < t.length)] at h3
      unfold wdsA at h3
      have e2 : ((p + (k + 1) : Nat) : Int) = ((p + k : Nat) : Int) + 1 := by omega
      have hkl : p + k < p + t.length := by omega
      by_cases c32 : t.getD k 0 = 32
      · rw [if_pos c32] at h3
        rw [c32] at e0
        have nil : (t.drop (k + 1)).take (k + 1 - (k + 1)) = [] := by rw [Nat.sub_self, List.take_zero]
        by_cases c : f < k
        · have hne : (t.drop f).take (k - f) ≠ [] := fun h => by
            have := congrArg List.length h
            rw [List.length_take, List.length_drop, List.length_nil] at this
            omega
          rw [if_neg hne] at h3
          have e1 : ((p + k : Nat) : Int) - ((p + f : Nat) : Int) = ((k - f : Nat) : Int) := by omega
          have hcw := cw f k I1 E1 un1 W1 (t.drop (k + 1)) (XK (d + 2) 98 58 [some (.ref u), some (.ref b), some (.int (w p)), some (.int (w t.length)), some (.int (w (p + t.length : Nat))), some (.int (w (p + f : Nat))), some (.int (w (p + k : Nat)))] [] Q) c (by omega) h1 h2 h3 (fun I' E' un' f1 f2 => ?_)
          · generalize hq1 : p + t.length = q1 at *
            generalize hq2 : p + f = q2 at *
            generalize hq3 : p + k = q3 at *
            rw [q_98_16]
            simp (disch := omega) only [q_98_0, q_98_1, q_98_2, q_98_3, q_98_4, q_98_5, q_98_8, q_98_10, q_98_11, q_98_13, q_98_14, q_98_18, q_98_20, q_98_23, q_98_25, q_98_27, q_98_30, q_98_31, q_98_33, q_98_34, q_98_36, q_98_39, q_98_42, q_98_44, q_98_46, q_98_49, q_98_50, q_98_51, q_98_53, q_98_55, q_98_57, q_98_58, q_98_61, q_98_63, q_98_64, q_98_65, q_98_67, q_98_70, q_98_73, q_98_e, va_rf_s, bz_0, bz_1, bz_ok, bb_ok, Nat.add_assoc, w_lt, w_add, w_sub, w_mul, w_div, em_def, w_eq, w_inT, ↓ilt_t, ↓ilt_f, ↓ieq_t, ↓ieq_f, ntT, w_b, w_ix, kx_v, kx_n, kl_n, kl_i, kl_r, kl_o, inA_i, inA_s, inA_b, inA_z, inA_l, inA_0, inA_4, inA_5, inA_6, inA_7, inA_8, inA_9, inA_10, al_0, al_1, al_2, al_4, al_5, al_98, bsP_2, bsP_3, wr_same, wr_wr, wr_ne, up_same, up_ne, Nat.reduceAdd, Int.reduceAdd, Int.reduceSub, Int.reduceMul, Int.reduceLT, Int.reduceLE, Int.reduceEq, Int.reduceNeg, Int.reduceToNat, Nat.reduceLT, Nat.reduceLeDiff, Nat.reduceEqDiff, ↓reduceIte, true_and, and_true, not_true_eq_false, not_false_eq_true, eq_self, or_true, true_or, or_false, false_or, if_true, if_false, Int.toNat_natCast, w_ite, Nat.add_zero, reduceCtorEq, ne_eq, hb, g0, e0, e1]
            exact hcw
          · have := ih (k + 1) (k + 1) I' E' un' _ (by omega) (Nat.le_refl _) f1 f2 (by rw [nil, List.append_assoc]; exact h3)
            rw [e2] at this
            generalize hq1 : p + t.length = q1 at *
            generalize hq2 : p + f = q2 at *
            generalize hq3 : p + k = q3 at *
            simp (disch := omega) only [q_98_0, q_98_1, q_98_2, q_98_3, q_98_4, q_98_5, q_98_8, q_98_10, q_98_11, q_98_13, q_98_14, q_98_18, q_98_20, q_98_23, q_98_25, q_98_27, q_98_30, q_98_31, q_98_33, q_98_34, q_98_36, q_98_39, q_98_42, q_98_44, q_98_46, q_98_49, q_98_50, q_98_51, q_98_53, q_98_55, q_98_57, q_98_58, q_98_61, q_98_63, q_98_64, q_98_65, q_98_67, q_98_70, q_98_73, q_98_e, va_rf_s, bz_0, bz_1, bz_ok, bb_ok, Nat.add_assoc, w_lt, w_add, w_sub, w_mul, w_div, em_def, w_eq, w_inT, ↓ilt_t, ↓ilt_f, ↓ieq_t, ↓ieq_f, ntT, w_b, w_ix, kx_v, kx_n, kl_n, kl_i, kl_r, kl_o, inA_i, inA_s, inA_b, inA_z, inA_l, inA_0, inA_4, inA_5, inA_6, inA_7, inA_8, inA_9, inA_10, al_0, al_1, al_2, al_4, al_5, al_98, bsP_2, bsP_3, wr_same, wr_wr, wr_ne, up_same, up_ne, Nat.reduceAdd, Int.reduceAdd, Int.reduceSub, Int.reduceMul, Int.reduceLT, Int.reduceLE, Int.reduceEq, Int.reduceNeg, Int.reduceToNat, Nat.reduceLT, Nat.reduceLeDiff, Nat.reduceEqDiff, ↓reduceIte, true_and, and_true, not_true_eq_false, not_false_eq_true, eq_self, or_true, true_or, or_false, false_or, if_true, if_false, Int.toNat_natCast, w_ite, Nat.add_zero, reduceCtorEq, ne_eq]
            exact this
        · have hnil : (t.drop f).take (k - f) = [] := by rw [show k - f = 0 by omega, List.take_zero]
          rw [hnil, if_pos rfl] at h3
          have : f = k := by omega
          subst this
          have := ih (f + 1) (f + 1) I1 E1 un1 W1 (by omega) (Nat.le_refl _) h1 h2 (by rw [nil]; exact h3)
          rw [e2] at this
          generalize hq1 : p + t.length = q1 at *
          generalize hq3 : p + f = q3 at *
          rw [q_98_16]
          simp (disch := omega) only [q_98_0, q_98_1, q_98_2, q_98_3, q_98_4, q_98_5, q_98_8, q_98_10, q_98_11, q_98_13, q_98_14, q_98_18, q_98_20, q_98_23, q_98_25, q_98_27, q_98_30, q_98_31, q_98_33, q_98_34, q_98_36, q_98_39, q_98_42, q_98_44, q_98_46, q_98_49, q_98_50, q_98_51, q_98_53, q_98_55, q_98_57, q_98_58, q_98_61, q_98_63, q_98_64, q_98_65, q_98_67, q_98_70, q_98_73, q_98_e, va_rf_s, bz_0, bz_1, bz_ok, bb_ok, Nat.add_assoc, w_lt, w_add, w_sub, w_mul, w_div, em_def, w_eq, w_inT, ↓ilt_t, ↓ilt_f, ↓ieq_t, ↓ieq_f, ntT, w_b, w_ix, kx_v, kx_n, kl_n, kl_i, kl_r, kl_o, inA_i, inA_s, inA_b, inA_z, inA_l, inA_0, inA_4, inA_5, inA_6, inA_7, inA_8, inA_9, inA_10, al_0, al_1, al_2, al_4, al_5, al_98, bsP_2, bsP_3, wr_same, wr_wr, wr_ne, up_same, up_ne, Nat.reduceAdd, Int.reduceAdd, Int.reduceSub, Int.reduceMul, Int.reduceLT, Int.reduceLE, Int.reduceEq, Int.reduceNeg, Int.reduceToNat, Nat.reduceLT, Nat.reduceLeDiff, Nat.reduceEqDiff, ↓reduceIte, true_and, and_true, not_true_eq_false, not_false_eq_true, eq_self, or_true, true_or, or_false, false_or, if_true, if_false, Int.toNat_natCast, w_ite, Nat.add_zero, reduceCtorEq, ne_eq, hb, e0]
          exact this
      · rw [if_neg c32, take_snoc hf (by omega)] at h3
        have := ih (k + 1) f I1 E1 un1 W1 (by omega) (by omega) h1 h2 h3
        rw [e2] at this
        generalize hq1 : p + t.length = q1 at *
        generalize hq2 : p + f = q2 at *
        generalize hq3 : p + k = q3 at *
        rw [q_98_16]
        simp (disch := omega) only [q_98_0, q_98_1, q_98_2, q_98_3, q_98_4, q_98_5, q_98_8, q_98_10, q_98_11, q_98_13, q_98_14, q_98_18, q_98_20, q_98_23, q_98_25, q_98_27, q_98_30, q_98_31, q_98_33, q_98_34, q_98_36, q_98_39, q_98_42, q_98_44, q_98_46, q_98_49, q_98_50, q_98_51, q_98_53, q_98_55, q_98_57, q_98_58, q_98_61, q_98_63, q_98_64, q_98_65, q_98_67, q_98_70, q_98_73, q_98_e, va_rf_s, bz_0, bz_1, bz_ok, bb_ok, Nat.add_assoc, w_lt, w_add, w_sub, w_mul, w_div, em_def, w_eq, w_inT, ↓ilt_t, ↓ilt_f, ↓ieq_t, ↓ieq_f, ntT, w_b, w_ix, kx_v, kx_n, kl_n, kl_i, kl_r, kl_o, inA_i, inA_s, inA_b, inA_z, inA_l, inA_0, inA_4, inA_5, inA_6, inA_7, inA_8, inA_9, inA_10, al_0, al_1, al_2, al_4, al_5, al_98, bsP_2, bsP_3, wr_same, wr_wr, wr_ne, up_same, up_ne, Nat.reduceAdd, Int.reduceAdd, Int.reduceSub, Int.reduceMul, Int.reduceLT, Int.reduceLE, Int.reduceEq, Int.reduceNeg, Int.reduceToNat, Nat.reduceLT, Nat.reduceLeDiff, Nat.reduceEqDiff, ↓reduceIte, true_and, and_true, not_true_eq_false, not_false_eq_true, eq_self, or_true, true_or, or_false, false_or, if_true, if_false, Int.toNat_natCast, w_ite, Nat.add_zero, reduceCtorEq, ne_eq, hb, e0]
        exact this
  have := lp t.length 0 0 I E un W (by omega) (Nat.le_refl _) (fun _ _ => rfl) hT (by rw [List.drop_zero, Nat.sub_self, List.take_zero]; rfl)
  simp only [Nat.add_zero] at this
  simp (disch := omega) only [q_98_0, q_98_1, q_98_2, q_98_3, q_98_4, q_98_5, q_98_8, q_98_10, q_98_11, q_98_13, q_98_14, q_98_18, q_98_20, q_98_23, q_98_25, q_98_27, q_98_30, q_98_31, q_98_33, q_98_34, q_98_36, q_98_39, q_98_42, q_98_44, q_98_46, q_98_49, q_98_50, q_98_51, q_98_53, q_98_55, q_98_57, q_98_58, q_98_61, q_98_63, q_98_64, q_98_65, q_98_67, q_98_70, q_98_73, q_98_e, va_rf_s, bz_0, bz_1, bz_ok, bb_ok, Nat.add_assoc, w_lt, w_add, w_sub, w_mul, w_div, em_def, w_eq, w_inT, ↓ilt_t, ↓ilt_f, ↓ieq_t, ↓ieq_f, ntT, w_b, w_ix, kx_v, kx_n, kl_n, kl_i, kl_r, kl_o, inA_i, inA_s, inA_b, inA_z, inA_l, inA_0, inA_4, inA_5, inA_6, inA_7, inA_8, inA_9, inA_10, al_0, al_1, al_2, al_4, al_5, al_98, bsP_2, bsP_3, wr_same, wr_wr, wr_ne, up_same, up_ne, Nat.reduceAdd, Int.reduceAdd, Int.reduceSub, Int.reduceMul, Int.reduceLT, Int.reduceLE, Int.reduceEq, Int.reduceNeg, Int.reduceToNat, Nat.reduceLT, Nat.reduceLeDiff, Nat.reduceEqDiff, ↓reduceIte, true_and, and_true, not_true_eq_false, not_false_eq_true, eq_self, or_true, true_or, or_false, false_or, if_true, if_false, Int.toNat_natCast, w_ite, Nat.add_zero, reduceCtorEq, ne_eq, hb]
  rw [show (p : Int) + t.length = (p + t.length : Nat) by omega]
  exact this
end

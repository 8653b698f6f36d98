/-! the first of the words said most; all texts counted -/
section
variable {d : Nat} {Q : XO → Hp → Prop} {S : SH} {I : MI} {L : ML} {R : MR} {G : MG} {A : Hp}
variable {u : Nat}
theorem sp_101 {b n1 a o : Nat} {e f : Ent} (hS : WcS S u) (hb : S b = some (.inl (2, n1))) (hn1 : n1 < 1000000) (ha : a < 32768) (ho : o < 32768) (ta : I (u + 3) a = w e.2.2 ∧ I (u + 1) a = w e.2.1 ∧ I (u + 2) a = w e.1.length) (to : I (u + 3) o = w f.2.2 ∧ I (u + 1) o = w f.2.1 ∧ I (u + 2) o = w f.1.length) (c1 : e.2.2 < 200000) (c2 : f.2.2 < 200000) (p1 : Txt (I b) e.2.1 e.1 ∧ e.2.1 + e.1.length ≤ n1) (p2 : Txt (I b) f.2.1 f.1 ∧ f.2.1 + f.1.length ≤ n1) :
    XC (d + 1) 101 [.ref u, .ref b, .int (w a), .int (w o)] (mk S I L R G) Q ↔ Q (.inl (some (.int (bz (decide (f.2.2 < e.2.2 ∨ (e.2.2 = f.2.2 ∧ lexc e.1 f.1 < 0))))))) (mk S I L R G) := by
  obtain ⟨g0, g1, g2, g3⟩ := id hS
  obtain ⟨a1, a2, a3⟩ := ta
  obtain ⟨o1, o2, o3⟩ := to
  have lb := lexc_bd e.1 f.1
  have scmp := fun {d : Nat} {Q : XO → Hp → Prop} => sp_cmp (d := d) (Q := Q) (I := I) (L := L) (R := R) (G := G) hb hb (by omega) (by omega) p1.2 p2.2 p1.1 p2.1
  by_cases c : e.2.2 = f.2.2
  · rw [c] at a1
    simp (disch := omega) only [q_101_0, q_101_1, q_101_4, q_101_5, q_101_6, q_101_7, q_101_10, q_101_11, q_101_12, q_101_15, q_101_16, q_101_19, q_101_20, q_101_21, q_101_22, q_101_25, q_101_26, q_101_27, q_101_30, q_101_31, q_101_34, q_101_35, q_101_36, q_101_37, q_101_38, q_101_41, q_101_42, q_101_43, q_101_44, q_101_47, q_101_48, q_101_49, q_101_50, q_101_51, q_101_54, q_101_55, q_101_56, q_101_57, q_101_60, q_101_61, q_101_62, q_101_65, q_101_68, q_101_69, q_101_72, q_101_73, q_101_e, va_rf_s, bz_0, bz_1, bz_ok, bb_ok, Nat.add_assoc, w_lt, w_add, w_sub, w_mul, w_div, em_def, w_eq, w_inT, ↓ilt_t, ↓ilt_f, ↓ieq_t, ↓ieq_f, ntT, w_b, w_ix, kx_v, kx_n, kl_n, kl_i, kl_r, kl_o, inA_i, inA_s, inA_b, inA_z, inA_l, inA_0, inA_4, inA_5, inA_6, inA_7, inA_8, inA_9, inA_10, al_0, al_1, al_2, al_4, al_5, al_98, bsP_2, bsP_3, wr_same, wr_wr, wr_ne, up_same, up_ne, Nat.reduceAdd, Int.reduceAdd, Int.reduceSub, Int.reduceMul, Int.reduceLT, Int.reduceLE, Int.reduceEq, Int.reduceNeg, Int.reduceToNat, Nat.reduceLT, Nat.reduceLeDiff, Nat.reduceEqDiff, ↓reduceIte, true_and, and_true, not_true_eq_false, not_false_eq_true, eq_self, or_true, true_or, or_false, false_or, if_true, if_false, Int.toNat_natCast, w_ite, Nat.add_zero, reduceCtorEq, ne_eq, g0, g1, g2, g3, a1, a2, a3, o1, o2, o3, scmp]
    by_cases cl : lexc e.1 f.1 < 0
    · rw [if_pos cl, decide_eq_true (Or.inr ⟨c, cl⟩)]; exact Iff.rfl
    · rw [if_neg cl, decide_eq_false (by omega)]; exact Iff.rfl
  · by_cases cl : f.2.2 < e.2.2
    · simp (disch := omega) only [q_101_0, q_101_1, q_101_4, q_101_5, q_101_6, q_101_7, q_101_10, q_101_11, q_101_12, q_101_15, q_101_16, q_101_19, q_101_20, q_101_21, q_101_22, q_101_25, q_101_26, q_101_27, q_101_30, q_101_31, q_101_34, q_101_35, q_101_36, q_101_37, q_101_38, q_101_41, q_101_42, q_101_43, q_101_44, q_101_47, q_101_48, q_101_49, q_101_50, q_101_51, q_101_54, q_101_55, q_101_56, q_101_57, q_101_60, q_101_61, q_101_62, q_101_65, q_101_68, q_101_69, q_101_72, q_101_73, q_101_e, va_rf_s, bz_0, bz_1, bz_ok, bb_ok, Nat.add_assoc, w_lt, w_add, w_sub, w_mul, w_div, em_def, w_eq, w_inT, ↓ilt_t, ↓ilt_f, ↓ieq_t, ↓ieq_f, ntT, w_b, w_ix, kx_v, kx_n, kl_n, kl_i, kl_r, kl_o, inA_i, inA_s, inA_b, inA_z, inA_l, inA_0, inA_4, inA_5, inA_6, inA_7, inA_8, inA_9, inA_10, al_0, al_1, al_2, al_4, al_5, al_98, bsP_2, bsP_3, wr_same, wr_wr, wr_ne, up_same, up_ne, Nat.reduceAdd, Int.reduceAdd, Int.reduceSub, Int.reduceMul, Int.reduceLT, Int.reduceLE, Int.reduceEq, Int.reduceNeg, Int.reduceToNat, Nat.reduceLT, Nat.reduceLeDiff, Nat.reduceEqDiff, ↓reduceIte, true_and, and_true, not_true_eq_false, not_false_eq_true, eq_self, or_true, true_or, or_false, false_or, if_true, if_false, Int.toNat_natCast, w_ite, Nat.add_zero, reduceCtorEq, ne_eq, g0, g1, g2, g3, a1, a2, a3, o1, o2, o3]
      rw [decide_eq_true (Or.inl cl)]; exact Iff.rfl
    · simp (disch := omega) only [q_101_0, q_101_1, q_101_4, q_101_5, q_101_6, q_101_7, q_101_10, q_101_11, q_101_12, q_101_15, q_101_16, q_101_19, q_101_20, q_101_21, q_101_22, q_101_25, q_101_26, q_101_27, q_101_30, q_101_31, q_101_34, q_101_35, q_101_36, q_101_37, q_101_38, q_101_41, q_101_42, q_101_43, q_101_44, q_101_47, q_101_48, q_101_49, q_101_50, q_101_51, q_101_54, q_101_55, q_101_56, q_101_57, q_101_60, q_101_61, q_101_62, q_101_65, q_101_68, q_101_69, q_101_72, q_101_73, q_101_e, va_rf_s, bz_0, bz_1, bz_ok, bb_ok, Nat.add_assoc, w_lt, w_add, w_sub, w_mul, w_div, em_def, w_eq, w_inT, ↓ilt_t, ↓ilt_f, ↓ieq_t, ↓ieq_f, ntT, w_b, w_ix, kx_v, kx_n, kl_n, kl_i, kl_r, kl_o, inA_i, inA_s, inA_b, inA_z, inA_l, inA_0, inA_4, inA_5, inA_6, inA_7, inA_8, inA_9, inA_10, al_0, al_1, al_2, al_4, al_5, al_98, bsP_2, bsP_3, wr_same, wr_wr, wr_ne, up_same, up_ne, Nat.reduceAdd, Int.reduceAdd, Int.reduceSub, Int.reduceMul, Int.reduceLT, Int.reduceLE, Int.reduceEq, Int.reduceNeg, Int.reduceToNat, Nat.reduceLT, Nat.reduceLeDiff, Nat.reduceEqDiff, ↓reduceIte, true_and, and_true, not_true_eq_false, not_false_eq_true, eq_self, or_true, true_or, or_false, false_or, if_true, if_false, Int.toNat_natCast, w_ite, Nat.add_zero, reduceCtorEq, ne_eq, g0, g1, g2, g3, a1, a2, a3, o1, o2, o3]
      rw [decide_eq_false (by omega)]; exact Iff.rfl
def mz : Option Nat → Int
  | none => -1
  | some s => s
theorem sp_100 {b n1 un : Nat} {E : Nat → Option Ent} {W : List (List Int)} {P : List Int → Nat → Prop} (hS : WcS S u) (hb : S b = some (.inl (2, n1))) (hn1 : n1 < 1000000) (hub : b < u ∨ u + 3 < b)
    (hP : ∀ y q, P y q → Txt (I b) q y ∧ q + y.length ≤ n1) (hW : wOk W) (hT : WSt I u un E W P)
    (hQ : ∀ (I' : MI) (m : Option Nat), (∀ a, a ≠ u → I' a = I a) → (∀ j, j ≠ 4 → I' u j = I u j) → I' u 4 = w (mz m) → HBest E 32768 m → Q (.inl none) (mk S I' L R G)) :
    XC (d + 2) 100 [.ref u, .ref b] (mk S I L R G) Q := by
  obtain ⟨g0, g1, g2, g3⟩ := id hS
  obtain ⟨t1, t2, t3, t4, t5⟩ := hT
  have hcnt : ∀ s e, E s = some e → e.2.2 < 200000 := fun s e he => by
    have h1 := (t3.1 s e he).2.2
    have h2 := List.count_le_length (a := e.1) (l := W)
    have h3 := wsum_len W
    have := hW.1
    omega
  have lp : ∀ (j k : Nat) (I1 : MI) (m : Option Nat), k + j = 32768 → (∀ a, a ≠ u → I1 a = I a) → (∀ j, j ≠ 4 → I1 u j = I u j) → I1 u 4 = w (mz m) → HBest E k m → XX (d + 2) 100 7 [some (.ref u), some (.ref b), some (.int (w k))] [] (mk S I1 L R G) Q := by
    intro j
    induction j with
    | zero =>
      intro k I1 m hk h1 h2 h3 h4
      have : k = 32768 := by omega
      subst this
      rw [q_100_7]
      simp (disch := omega) only [q_100_0, q_100_1, q_100_2, q_100_5, q_100_6, q_100_8, q_100_10, q_100_13, q_100_14, q_100_17, q_100_18, q_100_19, q_100_22, q_100_23, q_100_26, q_100_27, q_100_30, q_100_31, q_100_32, q_100_33, q_100_34, q_100_37, q_100_40, q_100_43, q_100_44, q_100_45, q_100_48, q_100_51, q_100_54, q_100_e, va_rf_s, bz_0, bz_1, bz_ok, bb_ok, Nat.add_assoc, w_lt, w_add, w_sub, w_mul, w_div, em_def, w_eq, w_inT, ↓ilt_t, ↓ilt_f, ↓ieq_t, ↓ieq_f, ntT, w_b, w_ix, kx_v, kx_n, kl_n, kl_i, kl_r, kl_o, inA_i, inA_s, inA_b, inA_z, inA_l, inA_0, inA_4, inA_5, inA_6, inA_7, inA_8, inA_9, inA_10, al_0, al_1, al_2, al_4, al_5, al_98, bsP_2, bsP_3, wr_same, wr_wr, wr_ne, up_same, up_ne, Nat.reduceAdd, Int.reduceAdd, Int.reduceSub, Int.reduceMul, Int.reduceLT, Int.reduceLE, Int.reduceEq, Int.reduceNeg, Int.reduceToNat, Nat.reduceLT, Nat.reduceLeDiff, Nat.reduceEqDiff, ↓reduceIte, true_and, and_true, not_true_eq_false, not_false_eq_true, eq_self, or_true, true_or, or_false, false_or, if_true, if_false, Int.toNat_natCast, w_ite, Nat.add_zero, reduceCtorEq, ne_eq]
      exact hQ I1 m h1 h2 h3 h4
    | succ j ih =>
      intro k I1 m hk h1 h2 h3 h4
      have e3 := h1 (u + 3) (by omega)
      have e1 := h1 (u + 1) (by omega)
      have e2 := h1 (u + 2) (by omega)
      have eb := h1 b (by omega)
      cases he : E k with
      | none =>
        have z := (t1 k (by omega)).1 he
        rw [← e3] at z
        have := ih (k + 1) I1 m (by omega) h1 h2 h3 (by
          cases m with
          | none =>
            intro s hs
            by_cases c : s = k
            · rw [c]; exact he
            · exact h4 s (by omega)
          | some s =>
            obtain ⟨a1, e, a2, a3⟩ := h4
            refine ⟨by omega, e, a2, fun s' hs' e' he' => ?_⟩
            by_cases c : s' = k
            · rw [c, he] at he'; cases he'
            · exact a3 s' (by omega) e' he')
        simp only [Int.natCast_add, Int.natCast_one] at this
        rw [q_100_7]
        simp (disch := omega) only [q_100_0, q_100_1, q_100_2, q_100_5, q_100_6, q_100_8, q_100_10, q_100_13, q_100_14, q_100_17, q_100_18, q_100_19, q_100_22, q_100_23, q_100_26, q_100_27, q_100_30, q_100_31, q_100_32, q_100_33, q_100_34, q_100_37, q_100_40, q_100_43, q_100_44, q_100_45, q_100_48, q_100_51, q_100_54, q_100_e, va_rf_s, bz_0, bz_1, bz_ok, bb_ok, Nat.add_assoc, w_lt, w_add, w_sub, w_mul, w_div, em_def, w_eq, w_inT, ↓ilt_t, ↓ilt_f, ↓ieq_t, ↓ieq_f, ntT, w_b, w_ix, kx_v, kx_n, kl_n, kl_i, kl_r, kl_o, inA_i, inA_s, inA_b, inA_z, inA_l, inA_0, inA_4, inA_5, inA_6, inA_7, inA_8, inA_9, inA_10, al_0, al_1, al_2, al_4, al_5, al_98, bsP_2, bsP_3, wr_same, wr_wr, wr_ne, up_same, up_ne, Nat.reduceAdd, Int.reduceAdd, Int.reduceSub, Int.reduceMul, Int.reduceLT, Int.reduceLE, Int.reduceEq, Int.reduceNeg, Int.reduceToNat, Nat.reduceLT, Nat.reduceLeDiff, Nat.reduceEqDiff, ↓reduceIte, true_and, and_true, not_true_eq_false, not_false_eq_true, eq_self, or_true, true_or, or_false, false_or, if_true, if_false, Int.toNat_natCast, w_ite, Nat.add_zero, reduceCtorEq, ne_eq, g0, g3, z]
        exact this
      | some e =>
        obtain ⟨z1, z2, z3, z4⟩ := (t1 k (by omega)).2 e he
        have zc := hcnt k e he
        have p1 := hP _ _ (t2 k e he)
        rw [← e3] at z1
        rw [← e1] at z2
        rw [← e2] at z3
        rw [← eb] at p1
        cases m with
        | none =>
          have := ih (k + 1) (wr I1 u (up (I1 u) 4 (w k))) (some k) (by omega) (fun a ha => by rw [wr_ne ha]; exact h1 a ha) (fun j hj => by rw [wr_same, up_ne hj]; exact h2 j hj) (by rw [wr_same, up_same]; rfl) (by
            refine ⟨by omega, e, he, fun s' hs' e' he' => ?_⟩
            by_cases c : s' = k
            · rw [c, he] at he'; cases he'
              refine Or.inr ⟨rfl, ?_⟩
              have := lexc_neg e.1 e.1
              omega
            · have := h4 s' (by omega); rw [this] at he'; cases he')
          simp only [Int.natCast_add, Int.natCast_one] at this
          have h3' : I1 u 4 = w (-1) := h3
          rw [q_100_7]
          simp (disch := omega) only [q_100_0, q_100_1, q_100_2, q_100_5, q_100_6, q_100_8, q_100_10, q_100_13, q_100_14, q_100_17, q_100_18, q_100_19, q_100_22, q_100_23, q_100_26, q_100_27, q_100_30, q_100_31, q_100_32, q_100_33, q_100_34, q_100_37, q_100_40, q_100_43, q_100_44, q_100_45, q_100_48, q_100_51, q_100_54, q_100_e, va_rf_s, bz_0, bz_1, bz_ok, bb_ok, Nat.add_assoc, w_lt, w_add, w_sub, w_mul, w_div, em_def, w_eq, w_inT, ↓ilt_t, ↓ilt_f, ↓ieq_t, ↓ieq_f, ntT, w_b, w_ix, kx_v, kx_n, kl_n, kl_i, kl_r, kl_o, inA_i, inA_s, inA_b, inA_z, inA_l, inA_0, inA_4, inA_5, inA_6, inA_7, inA_8, inA_9, inA_10, al_0, al_1, al_2, al_4, al_5, al_98, bsP_2, bsP_3, wr_same, wr_wr, wr_ne, up_same, up_ne, Nat.reduceAdd, Int.reduceAdd, Int.reduceSub, Int.reduceMul, Int.reduceLT, Int.reduceLE, Int.reduceEq, Int.reduceNeg, Int.reduceToNat, Nat.reduceLT, Nat.reduceLeDiff, Nat.reduceEqDiff, ↓reduceIte, true_and, and_true, not_true_eq_false, not_false_eq_true, eq_self, or_true, true_or, or_false, false_or, if_true, if_false, Int.toNat_natCast, w_ite, Nat.add_zero, reduceCtorEq, ne_eq, g0, g3, z1, h3']
          exact this
        | some s =>
          obtain ⟨a1, f, a2, a3⟩ := h4
          obtain ⟨y1, y2, y3, y4⟩ := (t1 s (by omega)).2 f a2
          have yc := hcnt s f a2
          have p2 := hP _ _ (t2 s f a2)
          rw [← e3] at y1
          rw [← e1] at y2
          rw [← e2] at y3
          rw [← eb] at p2
          have h3' : I1 u 4 = w s := h3
          have s101 := fun {d : Nat} {Q : XO → Hp → Prop} => sp_101 (d := d) (Q := Q) (S := S) (I := I1) (L := L) (R := R) (G := G) (e := e) (f := f) hS hb hn1 (show k < 32768 by omega) (show s < 32768 by omega) ⟨z1, z2, z3⟩ ⟨y1, y2, y3⟩ zc yc p1 p2
          by_cases cc : f.2.2 < e.2.2 ∨ (e.2.2 = f.2.2 ∧ lexc e.1 f.1 < 0)
          · rw [decide_eq_true cc] at s101
            have := ih (k + 1) (wr I1 u (up (I1 u) 4 (w k))) (some k) (by omega) (fun a ha => by rw [wr_ne ha]; exact h1 a ha) (fun j hj => by rw [wr_same, up_ne hj]; exact h2 j hj) (by rw [wr_same, up_same]; rfl) (by
              refine ⟨by omega, e, he, fun s' hs' e' he' => ?_⟩
              by_cases c : s' = k
              · rw [c, he] at he'; cases he'
                refine Or.inr ⟨rfl, ?_⟩
                have := lexc_neg e.1 e.1
                omega
              · have h5 := a3 s' (by omega) e' he'
                rcases cc with cc | ⟨cc1, cc2⟩
                · left; omega
                · rcases h5 with h5 | ⟨h5, h6⟩
                  · left; omega
                  · right
                    exact ⟨by omega, (lexc_tr e.1 f.1 e'.1 (by omega) h6).1⟩)
            simp only [Int.natCast_add, Int.natCast_one] at this
            rw [q_100_7]
            simp (disch := omega) only [q_100_0, q_100_1, q_100_2, q_100_5, q_100_6, q_100_8, q_100_10, q_100_13, q_100_14, q_100_17, q_100_18, q_100_19, q_100_22, q_100_23, q_100_26, q_100_27, q_100_30, q_100_31, q_100_32, q_100_33, q_100_34, q_100_37, q_100_40, q_100_43, q_100_44, q_100_45, q_100_48, q_100_51, q_100_54, q_100_e, va_rf_s, bz_0, bz_1, bz_ok, bb_ok, Nat.add_assoc, w_lt, w_add, w_sub, w_mul, w_div, em_def, w_eq, w_inT, ↓ilt_t, ↓ilt_f, ↓ieq_t, ↓ieq_f, ntT, w_b, w_ix, kx_v, kx_n, kl_n, kl_i, kl_r, kl_o, inA_i, inA_s, inA_b, inA_z, inA_l, inA_0, inA_4, inA_5, inA_6, inA_7, inA_8, inA_9, inA_10, al_0, al_1, al_2, al_4, al_5, al_98, bsP_2, bsP_3, wr_same, wr_wr, wr_ne, up_same, up_ne, Nat.reduceAdd, Int.reduceAdd, Int.reduceSub, Int.reduceMul, Int.reduceLT, Int.reduceLE, Int.reduceEq, Int.reduceNeg, Int.reduceToNat, Nat.reduceLT, Nat.reduceLeDiff, Nat.reduceEqDiff, ↓reduceIte, true_and, and_true, not_true_eq_false, not_false_eq_true, eq_self, or_true, true_or, or_false, false_or, if_true, if_false, Int.toNat_natCast, w_ite, Nat.add_zero, reduceCtorEq, ne_eq, g0, g3, z1, h3', s101, bz_t]
            exact this
          · rw [decide_eq_false cc] at s101
            have := ih (k + 1) I1 (some s) (by omega) h1 h2 h3 (by
              refine ⟨by omega, f, a2, fun s' hs' e' he' => ?_⟩
              by_cases c : s' = k
              · rw [c, he] at he'; cases he'
                have := lexc_neg e.1 f.1
                omega
              · exact a3 s' (by omega) e' he')
            simp only [Int.natCast_add, Int.natCast_one] at this
            rw [q_100_7]
            simp (disch := omega) only [q_100_0, q_100_1, q_100_2, q_100_5, q_100_6, q_100_8, q_100_10, q_100_13, q_100_14, q_100_17, q_100_18, q_100_19, q_100_22, q_100_23, q_100_26, q_100_27, q_100_30, q_100_31, q_100_32, q_100_33, q_100_34, q_100_37, q_100_40, q_100_43, q_100_44, q_100_45, q_100_48, q_100_51, q_100_54, q_100_e, va_rf_s, bz_0, bz_1, bz_ok, bb_ok, Nat.add_assoc, w_lt, w_add, w_sub, w_mul, w_div, em_def, w_eq, w_inT, ↓ilt_t, ↓ilt_f, ↓ieq_t, ↓ieq_f, ntT, w_b, w_ix, kx_v, kx_n, kl_n, kl_i, kl_r, kl_o, inA_i, inA_s, inA_b, inA_z, inA_l, inA_0, inA_4, inA_5, inA_6, inA_7, inA_8, inA_9, inA_10, al_0, al_1, al_2, al_4, al_5, al_98, bsP_2, bsP_3, wr_same, wr_wr, wr_ne, up_same, up_ne, Nat.reduceAdd, Int.reduceAdd, Int.reduceSub, Int.reduceMul, Int.reduceLT, Int.reduceLE, Int.reduceEq, Int.reduceNeg, Int.reduceToNat, Nat.reduceLT, Nat.reduceLeDiff, Nat.reduceEqDiff, ↓reduceIte, true_and, and_true, not_true_eq_false, not_false_eq_true, eq_self, or_true, true_or, or_false, false_or, if_true, if_false, Int.toNat_natCast, w_ite, Nat.add_zero, reduceCtorEq, ne_eq, g0, g3, z1, h3', s101, bz_f]
            exact this
  have := lp 32768 0 (wr I u (up (I u) 4 (w (-1)))) none (by omega) (fun a ha => wr_ne ha) (fun j hj => by rw [wr_same, up_ne hj]) (by rw [wr_same, up_same]; rfl) (fun s hs => absurd hs (Nat.not_lt_zero _))
  simp only [Int.natCast_zero] at this
  simp (disch := omega) only [q_100_0, q_100_1, q_100_2, q_100_5, q_100_6, q_100_8, q_100_10, q_100_13, q_100_14, q_100_17, q_100_18, q_100_19, q_100_22, q_100_23, q_100_26, q_100_27, q_100_30, q_100_31, q_100_32, q_100_33, q_100_34, q_100_37, q_100_40, q_100_43, q_100_44, q_100_45, q_100_48, q_100_51, q_100_54, q_100_e, va_rf_s, bz_0, bz_1, bz_ok, bb_ok, Nat.add_assoc, w_lt, w_add, w_sub, w_mul, w_div, em_def, w_eq, w_inT, ↓ilt_t, ↓ilt_f, ↓ieq_t, ↓ieq_f, ntT, w_b, w_ix, kx_v, kx_n, kl_n, kl_i, kl_r, kl_o, inA_i, inA_s, inA_b, inA_z, inA_l, inA_0, inA_4, inA_5, inA_6, inA_7, inA_8, inA_9, inA_10, al_0, al_1, al_2, al_4, al_5, al_98, bsP_2, bsP_3, wr_same, wr_wr, wr_ne, up_same, up_ne, Nat.reduceAdd, Int.reduceAdd, Int.reduceSub, Int.reduceMul, Int.reduceLT, Int.reduceLE, Int.reduceEq, Int.reduceNeg, Int.reduceToNat, Nat.reduceLT, Nat.reduceLeDiff, Nat.reduceEqDiff, ↓reduceIte, true_and, and_true, not_true_eq_false, not_false_eq_true, eq_self, or_true, true_or, or_false, false_or, if_true, if_false, Int.toNat_natCast, w_ite, Nat.add_zero, reduceCtorEq, ne_eq, g0]
  exact this
/-- the count is done -/
def WcD (I : MI) (u un mt ml : Nat) : Prop := I u 3 = w un ∧ ((I u 4 = w (-1) ∧ mt = 0 ∧ ml = 0) ∨ ∃ s, s < 32768 ∧ I u 4 = w (s : Nat) ∧ I (u + 3) s = w mt ∧ I (u + 2) s = w ml)
theorem sp_102 {un mt ml : Nat} (hS : WcS S u) (hD : WcD I u un mt ml) : XC d 102 [.ref u] (mk S I L R G) Q ↔ Q (.inl (some (.int (w mt)))) (mk S I L R G) := by
  obtain ⟨g0, g1, g2, g3⟩ := id hS
  obtain ⟨-, ⟨h1, h2, h3⟩ | ⟨s, h1, h2, h3, h4⟩⟩ := hD
  · subst h2
    simp (disch := omega) only [q_102_0, q_102_1, q_102_4, q_102_5, q_102_8, q_102_9, q_102_12, q_102_13, q_102_16, q_102_17, q_102_20, q_102_21, q_102_e, va_rf_s, bz_0, bz_1, bz_ok, bb_ok, Nat.add_assoc, w_lt, w_add, w_sub, w_mul, w_div, em_def, w_eq, w_inT, ↓ilt_t, ↓ilt_f, ↓ieq_t, ↓ieq_f, ntT, w_b, w_ix, kx_v, kx_n, kl_n, kl_i, kl_r, kl_o, inA_i, inA_s, inA_b, inA_z, inA_l, inA_0, inA_4, inA_5, inA_6, inA_7, inA_8, inA_9, inA_10, al_0, al_1, al_2, al_4, al_5, al_98, bsP_2, bsP_3, wr_same, wr_wr, wr_ne, up_same, up_ne, Nat.reduceAdd, Int.reduceAdd, Int.reduceSub, Int.reduceMul, Int.reduceLT, Int.reduceLE, Int.reduceEq, Int.reduceNeg, Int.reduceToNat, Nat.reduceLT, Nat.reduceLeDiff, Nat.reduceEqDiff, ↓reduceIte, true_and, and_true, not_true_eq_false, not_false_eq_true, eq_self, or_true, true_or, or_false, false_or, if_true, if_false, Int.toNat_natCast, w_ite, Nat.add_zero, reduceCtorEq, ne_eq, g0, h1]
    exact Iff.rfl
  · simp (disch := omega) only [q_102_0, q_102_1, q_102_4, q_102_5, q_102_8, q_102_9, q_102_12, q_102_13, q_102_16, q_102_17, q_102_20, q_102_21, q_102_e, va_rf_s, bz_0, bz_1, bz_ok, bb_ok, Nat.add_assoc, w_lt, w_add, w_sub, w_mul, w_div, em_def, w_eq, w_inT, ↓ilt_t, ↓ilt_f, ↓ieq_t, ↓ieq_f, ntT, w_b, w_ix, kx_v, kx_n, kl_n, kl_i, kl_r, kl_o, inA_i, inA_s, inA_b, inA_z, inA_l, inA_0, inA_4, inA_5, inA_6, inA_7, inA_8, inA_9, inA_10, al_0, al_1, al_2, al_4, al_5, al_98, bsP_2, bsP_3, wr_same, wr_wr, wr_ne, up_same, up_ne, Nat.reduceAdd, Int.reduceAdd, Int.reduceSub, Int.reduceMul, Int.reduceLT, Int.reduceLE, Int.reduceEq, Int.reduceNeg, Int.reduceToNat, Nat.reduceLT, Nat.reduceLeDiff, Nat.reduceEqDiff, ↓reduceIte, true_and, and_true, not_true_eq_false, not_false_eq_true, eq_self, or_true, true_or, or_false, false_or, if_true, if_false, Int.toNat_natCast, w_ite, Nat.add_zero, reduceCtorEq, ne_eq, g0, g3, h2, h3]
theorem sp_103 {un mt ml : Nat} (hS : WcS S u) (hD : WcD I u un mt ml) : XC d 103 [.ref u] (mk S I L R G) Q ↔ Q (.inl (some (.int (w ml)))) (mk S I L R G) := by
  obtain ⟨g0, g1, g2, g3⟩ := id hS
  obtain ⟨-, ⟨h1, h2, h3⟩ | ⟨s, h1, h2, h3, h4⟩⟩ := hD
  · subst h3
    simp (disch := omega) only [q_103_0, q_103_1, q_103_4, q_103_5, q_103_8, q_103_9, q_103_12, q_103_13, q_103_16, q_103_17, q_103_20, q_103_21, q_103_e, va_rf_s, bz_0, bz_1, bz_ok, bb_ok, Nat.add_assoc, w_lt, w_add, w_sub, w_mul, w_div, em_def, w_eq, w_inT, ↓ilt_t, ↓ilt_f, ↓ieq_t, ↓ieq_f, ntT, w_b, w_ix, kx_v, kx_n, kl_n, kl_i, kl_r, kl_o, inA_i, inA_s, inA_b, inA_z, inA_l, inA_0, inA_4, inA_5, inA_6, inA_7, inA_8, inA_9, inA_10, al_0, al_1, al_2, al_4, al_5, al_98, bsP_2, bsP_3, wr_same, wr_wr, wr_ne, up_same, up_ne, Nat.reduceAdd, Int.reduceAdd, Int.reduceSub, Int.reduceMul, Int.reduceLT, Int.reduceLE, Int.reduceEq, Int.reduceNeg, Int.reduceToNat, Nat.reduceLT, Nat.reduceLeDiff, Nat.reduceEqDiff, ↓reduceIte, true_and, and_true, not_true_eq_false, not_false_eq_true, eq_self, or_true, true_or, or_false, false_or, if_true, if_false, Int.toNat_natCast, w_ite, Nat.add_zero, reduceCtorEq, ne_eq, g0, h1]
    exact Iff.rfl
  · simp (disch := omega) only [q_103_0, q_103_1, q_103_4, q_103_5, q_103_8, q_103_9, q_103_12, q_103_13, q_103_16, q_103_17, q_103_20, q_103_21, q_103_e, va_rf_s, bz_0, bz_1, bz_ok, bb_ok, Nat.add_assoc, w_lt, w_add, w_sub, w_mul, w_div, em_def, w_eq, w_inT, ↓ilt_t, ↓ilt_f, ↓ieq_t, ↓ieq_f, ntT, w_b, w_ix, kx_v, kx_n, kl_n, kl_i, kl_r, kl_o, inA_i, inA_s, inA_b, inA_z, inA_l, inA_0, inA_4, inA_5, inA_6, inA_7, inA_8, inA_9, inA_10, al_0, al_1, al_2, al_4, al_5, al_98, bsP_2, bsP_3, wr_same, wr_wr, wr_ne, up_same, up_ne, Nat.reduceAdd, Int.reduceAdd, Int.reduceSub, Int.reduceMul, Int.reduceLT, Int.reduceLE, Int.reduceEq, Int.reduceNeg, Int.reduceToNat, Nat.reduceLT, Nat.reduceLeDiff, Nat.reduceEqDiff, ↓reduceIte, true_and, and_true, not_true_eq_false, not_false_eq_true, eq_self, or_true, true_or, or_false, false_or, if_true, if_false, Int.toNat_natCast, w_ite, Nat.add_zero, reduceCtorEq, ne_eq, g0, g2, h2, h4]
end

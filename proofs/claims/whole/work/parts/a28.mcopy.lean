/-! the model copies rules -/
def tb8 (x : Int32) : Int32 := x.toInt8.toInt32
section
variable {d : Nat} {Q : XO → Hp → Prop} {S : SH} {I : MI} {L : ML} {R : MR} {G : MG} {A : Hp}
variable {m : Nat} {s : St} {two : Bool}
theorem sp_173 {s1 k1 s2 k2 a1 a2 b1 b2 : Nat} (hL : MLay S R m) (hs1 : s1 < 27) (hs2 : s2 < 27) (hk1 : k1 < 30) (hk2 : k2 < 30) (hne : s1 ≠ s2 ∨ k1 ≠ k2) (ea1 : a1 = m + 7 + 31 * s1 + k1) (ea2 : a2 = m + 7 + 31 * s2 + k2) (eb1 : b1 = m + 846 + 211 * s1 + 7 * k1) (eb2 : b2 = m + 846 + 211 * s2 + 7 * k2)
    (hQ : ∀ I' : MI, (∀ x, x ≠ a2 → (x < b2 ∨ b2 + 6 ≤ x) → I' x = I x) → (∀ j, j < 17 → I' a2 j = I a1 j) → (∀ i, i < 6 → ∀ j, j < 8 → I' (b2 + i) j = tb8 (I (b1 + i) j)) → Q (.inl none) (mk S I' L R G)) :
    XC d 173 [.ref m, .int (w s1), .int (w k1), .int (w s2), .int (w k2)] (mk S I L R G) Q := by
  have hm := hL.1
  have hR5 := hL.2.2.2.2.2.1.1
  have hW5 := hL.2.2.2.2.2.2.1.1
  obtain ⟨p1, p2, p3⟩ := hL.2.2.2.2.2.1.2 s1 hs1
  obtain ⟨p4, p5⟩ := p3 k1 hk1
  obtain ⟨o1, o2, o3⟩ := hL.2.2.2.2.2.1.2 s2 hs2
  obtain ⟨o4, o5⟩ := o3 k2 hk2
  obtain ⟨v1, v2, v3⟩ := hL.2.2.2.2.2.2.1.2 s1 hs1
  obtain ⟨v4, v5, v6⟩ := v3 k1 hk1
  obtain ⟨u1, u2, u3⟩ := hL.2.2.2.2.2.2.1.2 s2 hs2
  obtain ⟨u4, u5, u6⟩ := u3 k2 hk2
  rw [← ea1] at p4 p5
  rw [← ea2] at o4 o5
  rw [← eb1] at v6
  rw [← eb2] at u6
  clear p3 o3 v3 u3
  obtain ⟨r1, er1⟩ : ∃ r1, r1 = m + 6 + 31 * s1 := ⟨_, rfl⟩
  obtain ⟨r2, er2⟩ : ∃ r2, r2 = m + 6 + 31 * s2 := ⟨_, rfl⟩
  obtain ⟨y1, ey1⟩ : ∃ y1, y1 = m + 844 + 211 * s1 := ⟨_, rfl⟩
  obtain ⟨y2, ey2⟩ : ∃ y2, y2 = m + 844 + 211 * s2 := ⟨_, rfl⟩
  obtain ⟨z1, ez1⟩ : ∃ z1, z1 = m + 845 + 211 * s1 + 7 * k1 := ⟨_, rfl⟩
  obtain ⟨z2, ez2⟩ : ∃ z2, z2 = m + 845 + 211 * s2 + 7 * k2 := ⟨_, rfl⟩
  rw [← er1] at p1 p2 p4
  rw [← er2] at o1 o2 o4
  rw [← ey1] at v1 v2 v4
  rw [← ey2] at u1 u2 u4
  rw [← ez1] at v4 v5 v6
  rw [← ez2] at u4 u5 u6
  -- the words
  have words : ∀ (j i : Nat) (I1 : MI) (o : Option Value), i + j = 6 → (∀ x, x ≠ a2 → (x < b2 ∨ b2 + 6 ≤ x) → I1 x = I x) → (∀ j, j < 17 → I1 a2 j = I a1 j) → (∀ i', i' < i → ∀ j, j < 8 → I1 (b2 + i') j = tb8 (I (b1 + i') j)) → XX d 173 42 [some (.ref m), some (.int (w s1)), some (.int (w k1)), some (.int (w s2)), some (.int (w k2)), some (.int (w i)), o] [] (mk S I1 L R G) Q := by
    intro j
    induction j with
    | zero =>
      intro i I1 o hi f1 f2 f3
      have : i = 6 := by omega
      subst this
      have := hQ I1 f1 f2 f3
      rw [q_173_42]
      simp (disch := omega) only [q_173_0, q_173_1, q_173_5, q_173_7, q_173_10, q_173_11, q_173_14, q_173_15, q_173_16, q_173_18, q_173_19, q_173_21, q_173_22, q_173_25, q_173_26, q_173_27, q_173_28, q_173_29, q_173_31, q_173_32, q_173_33, q_173_36, q_173_39, q_173_40, q_173_44, q_173_46, q_173_49, q_173_50, q_173_54, q_173_56, q_173_59, q_173_60, q_173_63, q_173_64, q_173_65, q_173_67, q_173_68, q_173_70, q_173_71, q_173_73, q_173_74, q_173_77, q_173_78, q_173_79, q_173_80, q_173_81, q_173_83, q_173_84, q_173_86, q_173_87, q_173_88, q_173_91, q_173_94, q_173_97, q_173_100, q_173_e, va_rf_s, bz_0, bz_1, bz_ok, bb_ok, Nat.add_assoc, w_lt, w_add, w_sub, w_mul, w_div, em_def, w_eq, w_inT, ↓ilt_t, ↓ilt_f, ↓ieq_t, ↓ieq_f, ntT, w_b, w_ix, kx_v, kx_n, kl_n, kl_i, kl_r, kl_o, inA_i, inA_s, inA_b, inA_z, inA_l, inA_0, inA_4, inA_5, inA_6, inA_7, inA_8, inA_9, inA_10, al_0, al_1, al_2, al_4, al_5, al_98, bsP_2, bsP_3, wr_same, wr_wr, wr_ne, up_same, up_ne, Nat.reduceAdd, Int.reduceAdd, Int.reduceSub, Int.reduceMul, Int.reduceLT, Int.reduceLE, Int.reduceEq, Int.reduceNeg, Int.reduceToNat, Nat.reduceLT, Nat.reduceLeDiff, Nat.reduceEqDiff, ↓reduceIte, true_and, and_true, not_true_eq_false, not_false_eq_true, eq_self, or_true, true_or, or_false, false_or, if_true, if_false, Int.toNat_natCast, w_ite, Nat.add_zero, reduceCtorEq, ne_eq]
      exact this
    | succ j ih =>
      intro i I1 o hi f1 f2 f3
      obtain ⟨v7, v8⟩ := v6 i (by omega)
      obtain ⟨u7, u8⟩ := u6 i (by omega)
      obtain ⟨c1, ec1⟩ : ∃ c1, c1 = b1 + i := ⟨_, rfl⟩
      obtain ⟨c2, ec2⟩ : ∃ c2, c2 = b2 + i := ⟨_, rfl⟩
      rw [← ec1] at v7 v8
      rw [← ec2] at u7 u8
      have inner : ∀ (n j : Nat) (I2 : MI), j + n = 8 → (∀ x, x ≠ c2 → I2 x = I1 x) → (∀ j', j' < j → I2 c2 j' = tb8 (I c1 j')) → XX d 173 52 [some (.ref m), some (.int (w s1)), some (.int (w k1)), some (.int (w s2)), some (.int (w k2)), some (.int (w i)), some (.int (w j))] [] (mk S I2 L R G) Q := by
        intro n
        induction n with
        | zero =>
          intro j I2 hj g1 g2
          have : j = 8 := by omega
          subst this
          have := ih (i + 1) I2 (some (.int (w (8 : Nat)))) (by omega) (fun x x1 x2 => by rw [g1 x (by omega)]; exact f1 x x1 x2) (fun j hj => by rw [g1 a2 (by omega)]; exact f2 j hj) (fun i' hi' j hj => by
            by_cases e : i' = i
            · rw [e, ← ec1, ← ec2]; exact g2 j hj
            · rw [g1 _ (by omega)]; exact f3 i' (by omega) j hj)
          simp only [Int.natCast_add, Int.natCast_one] at this
          rw [q_173_52]
          simp (disch := omega) only [q_173_0, q_173_1, q_173_5, q_173_7, q_173_10, q_173_11, q_173_14, q_173_15, q_173_16, q_173_18, q_173_19, q_173_21, q_173_22, q_173_25, q_173_26, q_173_27, q_173_28, q_173_29, q_173_31, q_173_32, q_173_33, q_173_36, q_173_39, q_173_40, q_173_44, q_173_46, q_173_49, q_173_50, q_173_54, q_173_56, q_173_59, q_173_60, q_173_63, q_173_64, q_173_65, q_173_67, q_173_68, q_173_70, q_173_71, q_173_73, q_173_74, q_173_77, q_173_78, q_173_79, q_173_80, q_173_81, q_173_83, q_173_84, q_173_86, q_173_87, q_173_88, q_173_91, q_173_94, q_173_97, q_173_100, q_173_e, va_rf_s, bz_0, bz_1, bz_ok, bb_ok, Nat.add_assoc, w_lt, w_add, w_sub, w_mul, w_div, em_def, w_eq, w_inT, ↓ilt_t, ↓ilt_f, ↓ieq_t, ↓ieq_f, ntT, w_b, w_ix, kx_v, kx_n, kl_n, kl_i, kl_r, kl_o, inA_i, inA_s, inA_b, inA_z, inA_l, inA_0, inA_4, inA_5, inA_6, inA_7, inA_8, inA_9, inA_10, al_0, al_1, al_2, al_4, al_5, al_98, bsP_2, bsP_3, wr_same, wr_wr, wr_ne, up_same, up_ne, Nat.reduceAdd, Int.reduceAdd, Int.reduceSub, Int.reduceMul, Int.reduceLT, Int.reduceLE, Int.reduceEq, Int.reduceNeg, Int.reduceToNat, Nat.reduceLT, Nat.reduceLeDiff, Nat.reduceEqDiff, ↓reduceIte, true_and, and_true, not_true_eq_false, not_false_eq_true, eq_self, or_true, true_or, or_false, false_or, if_true, if_false, Int.toNat_natCast, w_ite, Nat.add_zero, reduceCtorEq, ne_eq]
          exact this
        | succ n jh =>
          intro j I2 hj g1 g2
          have := jh (j + 1) (wr I2 c2 (up (I2 c2) j (tb8 (I2 c1 j)))) (by omega) (fun x hx => by rw [wr_ne hx]; exact g1 x hx) (fun j' hj' => by
            rw [wr_same]
            by_cases e : j' = j
            · rw [e, up_same, g1 c1 (by omega), f1 c1 (by omega) (by omega)]
            · rw [up_ne e]; exact g2 j' (by omega))
          simp only [Int.natCast_add, Int.natCast_one, tb8] at this
          rw [q_173_52]
          simp (disch := omega) only [q_173_0, q_173_1, q_173_5, q_173_7, q_173_10, q_173_11, q_173_14, q_173_15, q_173_16, q_173_18, q_173_19, q_173_21, q_173_22, q_173_25, q_173_26, q_173_27, q_173_28, q_173_29, q_173_31, q_173_32, q_173_33, q_173_36, q_173_39, q_173_40, q_173_44, q_173_46, q_173_49, q_173_50, q_173_54, q_173_56, q_173_59, q_173_60, q_173_63, q_173_64, q_173_65, q_173_67, q_173_68, q_173_70, q_173_71, q_173_73, q_173_74, q_173_77, q_173_78, q_173_79, q_173_80, q_173_81, q_173_83, q_173_84, q_173_86, q_173_87, q_173_88, q_173_91, q_173_94, q_173_97, q_173_100, q_173_e, va_rf_s, bz_0, bz_1, bz_ok, bb_ok, Nat.add_assoc, w_lt, w_add, w_sub, w_mul, w_div, em_def, w_eq, w_inT, ↓ilt_t, ↓ilt_f, ↓ieq_t, ↓ieq_f, ntT, w_b, w_ix, kx_v, kx_n, kl_n, kl_i, kl_r, kl_o, inA_i, inA_s, inA_b, inA_z, inA_l, inA_0, inA_4, inA_5, inA_6, inA_7, inA_8, inA_9, inA_10, al_0, al_1, al_2, al_4, al_5, al_98, bsP_2, bsP_3, wr_same, wr_wr, wr_ne, up_same, up_ne, Nat.reduceAdd, Int.reduceAdd, Int.reduceSub, Int.reduceMul, Int.reduceLT, Int.reduceLE, Int.reduceEq, Int.reduceNeg, Int.reduceToNat, Nat.reduceLT, Nat.reduceLeDiff, Nat.reduceEqDiff, ↓reduceIte, true_and, and_true, not_true_eq_false, not_false_eq_true, eq_self, or_true, true_or, or_false, false_or, if_true, if_false, Int.toNat_natCast, w_ite, Nat.add_zero, reduceCtorEq, ne_eq, hm, hW5, u1, u2, u4, u5, u7, u8, v1, v2, v4, v5, v7, v8]
          exact this
      have := inner 8 0 I1 (by omega) (fun _ _ => rfl) (fun j' hj' => by omega)
      rw [q_173_42]
      simp (disch := omega) only [q_173_0, q_173_1, q_173_5, q_173_7, q_173_10, q_173_11, q_173_14, q_173_15, q_173_16, q_173_18, q_173_19, q_173_21, q_173_22, q_173_25, q_173_26, q_173_27, q_173_28, q_173_29, q_173_31, q_173_32, q_173_33, q_173_36, q_173_39, q_173_40, q_173_44, q_173_46, q_173_49, q_173_50, q_173_54, q_173_56, q_173_59, q_173_60, q_173_63, q_173_64, q_173_65, q_173_67, q_173_68, q_173_70, q_173_71, q_173_73, q_173_74, q_173_77, q_173_78, q_173_79, q_173_80, q_173_81, q_173_83, q_173_84, q_173_86, q_173_87, q_173_88, q_173_91, q_173_94, q_173_97, q_173_100, q_173_e, va_rf_s, bz_0, bz_1, bz_ok, bb_ok, Nat.add_assoc, w_lt, w_add, w_sub, w_mul, w_div, em_def, w_eq, w_inT, ↓ilt_t, ↓ilt_f, ↓ieq_t, ↓ieq_f, ntT, w_b, w_ix, kx_v, kx_n, kl_n, kl_i, kl_r, kl_o, inA_i, inA_s, inA_b, inA_z, inA_l, inA_0, inA_4, inA_5, inA_6, inA_7, inA_8, inA_9, inA_10, al_0, al_1, al_2, al_4, al_5, al_98, bsP_2, bsP_3, wr_same, wr_wr, wr_ne, up_same, up_ne, Nat.reduceAdd, Int.reduceAdd, Int.reduceSub, Int.reduceMul, Int.reduceLT, Int.reduceLE, Int.reduceEq, Int.reduceNeg, Int.reduceToNat, Nat.reduceLT, Nat.reduceLeDiff, Nat.reduceEqDiff, ↓reduceIte, true_and, and_true, not_true_eq_false, not_false_eq_true, eq_self, or_true, true_or, or_false, false_or, if_true, if_false, Int.toNat_natCast, w_ite, Nat.add_zero, reduceCtorEq, ne_eq]
      exact this
  have slots : ∀ (n j : Nat) (I1 : MI), j + n = 17 → (∀ x, x ≠ a2 → I1 x = I x) → (∀ j', j' < j → I1 a2 j' = I a1 j') → XX d 173 3 [some (.ref m), some (.int (w s1)), some (.int (w k1)), some (.int (w s2)), some (.int (w k2)), some (.int (w j)), none] [] (mk S I1 L R G) Q := by
    intro n
    induction n with
    | zero =>
      intro j I1 hj f1 f2
      have : j = 17 := by omega
      subst this
      have := words 6 0 I1 none (by omega) (fun x x1 x2 => f1 x x1) f2 (fun i' hi' => by omega)
      rw [q_173_3]
      simp (disch := omega) only [q_173_0, q_173_1, q_173_5, q_173_7, q_173_10, q_173_11, q_173_14, q_173_15, q_173_16, q_173_18, q_173_19, q_173_21, q_173_22, q_173_25, q_173_26, q_173_27, q_173_28, q_173_29, q_173_31, q_173_32, q_173_33, q_173_36, q_173_39, q_173_40, q_173_44, q_173_46, q_173_49, q_173_50, q_173_54, q_173_56, q_173_59, q_173_60, q_173_63, q_173_64, q_173_65, q_173_67, q_173_68, q_173_70, q_173_71, q_173_73, q_173_74, q_173_77, q_173_78, q_173_79, q_173_80, q_173_81, q_173_83, q_173_84, q_173_86, q_173_87, q_173_88, q_173_91, q_173_94, q_173_97, q_173_100, q_173_e, va_rf_s, bz_0, bz_1, bz_ok, bb_ok, Nat.add_assoc, w_lt, w_add, w_sub, w_mul, w_div, em_def, w_eq, w_inT, ↓ilt_t, ↓ilt_f, ↓ieq_t, ↓ieq_f, ntT, w_b, w_ix, kx_v, kx_n, kl_n, kl_i, kl_r, kl_o, inA_i, inA_s, inA_b, inA_z, inA_l, inA_0, inA_4, inA_5, inA_6, inA_7, inA_8, inA_9, inA_10, al_0, al_1, al_2, al_4, al_5, al_98, bsP_2, bsP_3, wr_same, wr_wr, wr_ne, up_same, up_ne, Nat.reduceAdd, Int.reduceAdd, Int.reduceSub, Int.reduceMul, Int.reduceLT, Int.reduceLE, Int.reduceEq, Int.reduceNeg, Int.reduceToNat, Nat.reduceLT, Nat.reduceLeDiff, Nat.reduceEqDiff, ↓reduceIte, true_and, and_true, not_true_eq_false, not_false_eq_true, eq_self, or_true, true_or, or_false, false_or, if_true, if_false, Int.toNat_natCast, w_ite, Nat.add_zero, reduceCtorEq, ne_eq]
      exact this
    | succ n ih =>
      intro j I1 hj f1 f2
      have := ih (j + 1) (wr I1 a2 (up (I1 a2) j (I1 a1 j))) (by omega) (fun x hx => by rw [wr_ne hx]; exact f1 x hx) (fun j' hj' => by
        rw [wr_same]
        by_cases e : j' = j
        · rw [e, up_same, f1 a1 (by omega)]
        · rw [up_ne e]; exact f2 j' (by omega))
      simp only [Int.natCast_add, Int.natCast_one] at this
      rw [q_173_3]
      simp (disch := omega) only [q_173_0, q_173_1, q_173_5, q_173_7, q_173_10, q_173_11, q_173_14, q_173_15, q_173_16, q_173_18, q_173_19, q_173_21, q_173_22, q_173_25, q_173_26, q_173_27, q_173_28, q_173_29, q_173_31, q_173_32, q_173_33, q_173_36, q_173_39, q_173_40, q_173_44, q_173_46, q_173_49, q_173_50, q_173_54, q_173_56, q_173_59, q_173_60, q_173_63, q_173_64, q_173_65, q_173_67, q_173_68, q_173_70, q_173_71, q_173_73, q_173_74, q_173_77, q_173_78, q_173_79, q_173_80, q_173_81, q_173_83, q_173_84, q_173_86, q_173_87, q_173_88, q_173_91, q_173_94, q_173_97, q_173_100, q_173_e, va_rf_s, bz_0, bz_1, bz_ok, bb_ok, Nat.add_assoc, w_lt, w_add, w_sub, w_mul, w_div, em_def, w_eq, w_inT, ↓ilt_t, ↓ilt_f, ↓ieq_t, ↓ieq_f, ntT, w_b, w_ix, kx_v, kx_n, kl_n, kl_i, kl_r, kl_o, inA_i, inA_s, inA_b, inA_z, inA_l, inA_0, inA_4, inA_5, inA_6, inA_7, inA_8, inA_9, inA_10, al_0, al_1, al_2, al_4, al_5, al_98, bsP_2, bsP_3, wr_same, wr_wr, wr_ne, up_same, up_ne, Nat.reduceAdd, Int.reduceAdd, Int.reduceSub, Int.reduceMul, Int.reduceLT, Int.reduceLE, Int.reduceEq, Int.reduceNeg, Int.reduceToNat, Nat.reduceLT, Nat.reduceLeDiff, Nat.reduceEqDiff, ↓reduceIte, true_and, and_true, not_true_eq_false, not_false_eq_true, eq_self, or_true, true_or, or_false, false_or, if_true, if_false, Int.toNat_natCast, w_ite, Nat.add_zero, reduceCtorEq, ne_eq, hm, hR5, p1, p2, p4, p5, o1, o2, o4, o5]
      exact this
  have := slots 17 0 I (by omega) (fun _ _ => rfl) (fun j' hj' => by omega)
  simp (disch := omega) only [q_173_0, q_173_1, q_173_5, q_173_7, q_173_10, q_173_11, q_173_14, q_173_15, q_173_16, q_173_18, q_173_19, q_173_21, q_173_22, q_173_25, q_173_26, q_173_27, q_173_28, q_173_29, q_173_31, q_173_32, q_173_33, q_173_36, q_173_39, q_173_40, q_173_44, q_173_46, q_173_49, q_173_50, q_173_54, q_173_56, q_173_59, q_173_60, q_173_63, q_173_64, q_173_65, q_173_67, q_173_68, q_173_70, q_173_71, q_173_73, q_173_74, q_173_77, q_173_78, q_173_79, q_173_80, q_173_81, q_173_83, q_173_84, q_173_86, q_173_87, q_173_88, q_173_91, q_173_94, q_173_97, q_173_100, q_173_e, va_rf_s, bz_0, bz_1, bz_ok, bb_ok, Nat.add_assoc, w_lt, w_add, w_sub, w_mul, w_div, em_def, w_eq, w_inT, ↓ilt_t, ↓ilt_f, ↓ieq_t, ↓ieq_f, ntT, w_b, w_ix, kx_v, kx_n, kl_n, kl_i, kl_r, kl_o, inA_i, inA_s, inA_b, inA_z, inA_l, inA_0, inA_4, inA_5, inA_6, inA_7, inA_8, inA_9, inA_10, al_0, al_1, al_2, al_4, al_5, al_98, bsP_2, bsP_3, wr_same, wr_wr, wr_ne, up_same, up_ne, Nat.reduceAdd, Int.reduceAdd, Int.reduceSub, Int.reduceMul, Int.reduceLT, Int.reduceLE, Int.reduceEq, Int.reduceNeg, Int.reduceToNat, Nat.reduceLT, Nat.reduceLeDiff, Nat.reduceEqDiff, ↓reduceIte, true_and, and_true, not_true_eq_false, not_false_eq_true, eq_self, or_true, true_or, or_false, false_or, if_true, if_false, Int.toNat_natCast, w_ite, Nat.add_zero, reduceCtorEq, ne_eq]
  exact this
theorem RuM.copy {I' : MI} {s1 k1 s2 k2 : Nat} {ρ : Rl} (h : RuM I m s1 k1 ρ) (e1 : ∀ j, j < 17 → I' (m + 7 + 31 * s2 + k2) j = I (m + 7 + 31 * s1 + k1) j) (e2 : ∀ i, i < 6 → ∀ j, j < 8 → I' (m + 846 + 211 * s2 + 7 * k2 + i) j = tb8 (I (m + 846 + 211 * s1 + 7 * k1 + i) j)) : RuM I' m s2 k2 ρ := by
  obtain ⟨a1, a2, a3, a4, a5, a6, a7⟩ := h
  have h6 : ρ.2.2.2.2.length ≤ 6 := a6.2.2.2.2.2.2.2.2.1
  refine ⟨by rw [e1 _ (by decide)]; exact a1, by rw [e1 _ (by decide)]; exact a2, by rw [e1 _ (by decide)]; exact a3, by rw [e1 _ (by decide)]; exact a4, by rw [e1 _ (by decide)]; exact a5, a6, fun i hi => ?_⟩
  obtain ⟨b1, b2, b3⟩ := a7 i hi
  refine ⟨by rw [e1 _ (by omega)]; exact b1, by rw [e1 _ (by omega)]; exact b2, fun h0 => ?_⟩
  have hT := b3 h0
  have hit := itOk_get a6 hi
  have hgm : ∀ (M : List Int) (q : Nat), q < M.length → M.getD q 0 ∈ M := fun M q h => by rw [List.getD_eq_getElem?_getD, List.getElem?_eq_getElem h]; exact List.getElem_mem h
  rcases hit with ⟨-, g1, g2, g3, g4⟩ | ⟨g1, -⟩ | ⟨g1, -⟩
  · intro q hq
    have := hT q hq
    rw [Nat.zero_add] at this ⊢
    have hc := g4 _ (hgm _ q hq)
    rw [e2 i (by omega) q (by omega), this]
    exact w_b (by omega) (by omega)
  · omega
  · omega
def StF (I I' : MI) (m s : Nat) : Prop := (∀ x, x ≠ m + 3 → (x < m + 7 + 31 * s ∨ m + 37 + 31 * s ≤ x) → (x < m + 846 + 211 * s ∨ m + 1055 + 211 * s ≤ x) → I' x = I x) ∧ ∀ j, j ≠ s → I' (m + 3) j = I (m + 3) j
theorem StF.refl {I : MI} {m s : Nat} : StF I I m s := ⟨fun _ _ _ _ => rfl, fun _ _ => rfl⟩
theorem StF.trans {I I1 I2 : MI} {m s : Nat} (h : StF I I1 m s) (h' : StF I1 I2 m s) : StF I I2 m s := ⟨fun x h1 h2 h3 => (h'.1 x h1 h2 h3).trans (h.1 x h1 h2 h3), fun j hj => (h'.2 j hj).trans (h.2 j hj)⟩
theorem RuM.st {I' : MI} {s s' k : Nat} {ρ : Rl} (h : RuM I m s' k ρ) (hF : StF I I' m s) (hs : s' < 27) (hs2 : s < 27) (hne : s' ≠ s) (hk : k < 30) : RuM I' m s' k ρ :=
  h.congr (hF.1 _ (by omega) (by omega) (by omega)) (fun i hi => hF.1 _ (by omega) (by omega) (by omega))
theorem RsM.st {I' : MI} {s s' : Nat} {rs : List Rl} (h : RsM I m s' rs) (hF : StF I I' m s) (hs : s' < 27) (hs2 : s < 27) (hne : s' ≠ s) : RsM I' m s' rs := by
  have h30 := h.2.1
  exact ⟨by rw [hF.2 s' hne]; exact h.1, h.2.1, fun k hk => (h.2.2 k hk).st hF hs hs2 hne (by omega)⟩
/-- one rule set down in another place -/
theorem sp_173R {s1 k1 s2 k2 : Nat} {ρ : Rl} (hL : MLay S R m) (hs1 : s1 < 27) (hs2 : s2 < 27) (hk1 : k1 < 30) (hk2 : k2 < 30) (hne : s1 ≠ s2 ∨ k1 ≠ k2) (h : RuM I m s1 k1 ρ)
    (hQ : ∀ I' : MI, StF I I' m s2 → (∀ j, I' (m + 3) j = I (m + 3) j) → RuM I' m s2 k2 ρ → (∀ k ρ', k < 30 → k ≠ k2 → RuM I m s2 k ρ' → RuM I' m s2 k ρ') → Q (.inl none) (mk S I' L R G)) :
    XC d 173 [.ref m, .int (w s1), .int (w k1), .int (w s2), .int (w k2)] (mk S I L R G) Q := by
  refine sp_173 hL hs1 hs2 hk1 hk2 hne rfl rfl rfl rfl (fun I' f1 f2 f3 => ?_)
  refine hQ I' ⟨fun x x1 x2 x3 => f1 x (by omega) (by omega), fun j _ => by rw [f1 _ (by omega) (by omega)]⟩ (fun j => by rw [f1 _ (by omega) (by omega)]) (h.copy f2 f3) (fun k ρ' hk hkk hr => hr.congr (f1 _ (by omega) (by omega)) (fun i hi => f1 _ (by omega) (by omega)))
theorem sp_174 {s1 s2 : Nat} {rs : List Rl} (hL : MLay S R m) (hs1 : s1 < 27) (hs2 : s2 < 27) (hne : s1 ≠ s2) (h : RsM I m s1 rs)
    (hQ : ∀ I' : MI, StF I I' m s2 → RsM I' m s2 rs → Q (.inl none) (mk S I' L R G)) :
    XC (d + 1) 174 [.ref m, .int (w s1), .int (w s2)] (mk S I L R G) Q := by
  have hm := hL.1
  have hS3 := hL.2.2.2.1
  have h30 := h.2.1
  have lp : ∀ (j k : Nat) (I1 : MI), k + j = rs.length → StF I I1 m s2 → I1 (m + 3) s2 = w rs.length → (∀ k', k' < k → RuM I1 m s2 k' (rs.getD k' rd0)) → XX (d + 1) 174 14 [some (.ref m), some (.int (w s1)), some (.int (w s2)), some (.int (w k))] [] (mk S I1 L R G) Q := by
    intro j
    induction j with
    | zero =>
      intro k I1 hk hF h2 hr
      have h1 := h.st hF hs1 hs2 hne
      have e1 := h1.1
      have := hQ I1 hF ⟨h2, h30, fun k' hk' => hr k' (by omega)⟩
      rw [q_174_14]
      simp (disch := omega) only [q_174_0, q_174_1, q_174_4, q_174_5, q_174_6, q_174_9, q_174_10, q_174_11, q_174_12, q_174_13, q_174_15, q_174_16, q_174_19, q_174_20, q_174_21, q_174_24, q_174_25, q_174_26, q_174_27, q_174_28, q_174_29, q_174_32, q_174_35, q_174_38, q_174_e, va_rf_s, bz_0, bz_1, bz_ok, bb_ok, Nat.add_assoc, w_lt, w_add, w_sub, w_mul, w_div, em_def, w_eq, w_inT, ↓ilt_t, ↓ilt_f, ↓ieq_t, ↓ieq_f, ntT, w_b, w_ix, kx_v, kx_n, kl_n, kl_i, kl_r, kl_o, inA_i, inA_s, inA_b, inA_z, inA_l, inA_0, inA_4, inA_5, inA_6, inA_7, inA_8, inA_9, inA_10, al_0, al_1, al_2, al_4, al_5, al_98, bsP_2, bsP_3, wr_same, wr_wr, wr_ne, up_same, up_ne, Nat.reduceAdd, Int.reduceAdd, Int.reduceSub, Int.reduceMul, Int.reduceLT, Int.reduceLE, Int.reduceEq, Int.reduceNeg, Int.reduceToNat, Nat.reduceLT, Nat.reduceLeDiff, Nat.reduceEqDiff, ↓reduceIte, true_and, and_true, not_true_eq_false, not_false_eq_true, eq_self, or_true, true_or, or_false, false_or, if_true, if_false, Int.toNat_natCast, w_ite, Nat.add_zero, reduceCtorEq, ne_eq, hm, hS3, e1]
      exact this
    | succ j ih =>
      intro k I1 hk hF h2 hr
      have h1 := h.st hF hs1 hs2 hne
      have e1 := h1.1
      rw [q_174_14]
      simp (disch := omega) only [q_174_0, q_174_1, q_174_4, q_174_5, q_174_6, q_174_9, q_174_10, q_174_11, q_174_12, q_174_13, q_174_15, q_174_16, q_174_19, q_174_20, q_174_21, q_174_24, q_174_25, q_174_26, q_174_27, q_174_28, q_174_29, q_174_32, q_174_35, q_174_38, q_174_e, va_rf_s, bz_0, bz_1, bz_ok, bb_ok, Nat.add_assoc, w_lt, w_add, w_sub, w_mul, w_div, em_def, w_eq, w_inT, ↓ilt_t, ↓ilt_f, ↓ieq_t, ↓ieq_f, ntT, w_b, w_ix, kx_v, kx_n, kl_n, kl_i, kl_r, kl_o, inA_i, inA_s, inA_b, inA_z, inA_l, inA_0, inA_4, inA_5, inA_6, inA_7, inA_8, inA_9, inA_10, al_0, al_1, al_2, al_4, al_5, al_98, bsP_2, bsP_3, wr_same, wr_wr, wr_ne, up_same, up_ne, Nat.reduceAdd, Int.reduceAdd, Int.reduceSub, Int.reduceMul, Int.reduceLT, Int.reduceLE, Int.reduceEq, Int.reduceNeg, Int.reduceToNat, Nat.reduceLT, Nat.reduceLeDiff, Nat.reduceEqDiff, ↓reduceIte, true_and, and_true, not_true_eq_false, not_false_eq_true, eq_self, or_true, true_or, or_false, false_or, if_true, if_false, Int.toNat_natCast, w_ite, Nat.add_zero, reduceCtorEq, ne_eq, hm, hS3, e1]
      refine sp_173R hL hs1 hs2 (by omega) (by omega) (Or.inl hne) (h1.2.2 k (by omega)) (fun I2 hF2 e2 hR2 hO2 => ?_)
      have := ih (k + 1) I2 (by omega) (hF.trans hF2) (by rw [e2]; exact h2) (fun k' hk' => by
        by_cases e : k' = k
        · rw [e]; exact hR2
        · exact hO2 k' _ (by omega) e (hr k' (by omega)))
      simp only [Int.natCast_add, Int.natCast_one] at this
      simp (disch := omega) only [q_174_0, q_174_1, q_174_4, q_174_5, q_174_6, q_174_9, q_174_10, q_174_11, q_174_12, q_174_13, q_174_15, q_174_16, q_174_19, q_174_20, q_174_21, q_174_24, q_174_25, q_174_26, q_174_27, q_174_28, q_174_29, q_174_32, q_174_35, q_174_38, q_174_e, va_rf_s, bz_0, bz_1, bz_ok, bb_ok, Nat.add_assoc, w_lt, w_add, w_sub, w_mul, w_div, em_def, w_eq, w_inT, ↓ilt_t, ↓ilt_f, ↓ieq_t, ↓ieq_f, ntT, w_b, w_ix, kx_v, kx_n, kl_n, kl_i, kl_r, kl_o, inA_i, inA_s, inA_b, inA_z, inA_l, inA_0, inA_4, inA_5, inA_6, inA_7, inA_8, inA_9, inA_10, al_0, al_1, al_2, al_4, al_5, al_98, bsP_2, bsP_3, wr_same, wr_wr, wr_ne, up_same, up_ne, Nat.reduceAdd, Int.reduceAdd, Int.reduceSub, Int.reduceMul, Int.reduceLT, Int.reduceLE, Int.reduceEq, Int.reduceNeg, Int.reduceToNat, Nat.reduceLT, Nat.reduceLeDiff, Nat.reduceEqDiff, ↓reduceIte, true_and, and_true, not_true_eq_false, not_false_eq_true, eq_self, or_true, true_or, or_false, false_or, if_true, if_false, Int.toNat_natCast, w_ite, Nat.add_zero, reduceCtorEq, ne_eq]
      exact this
  have e1 := h.1
  have := lp rs.length 0 (wr I (m + 3) (up (I (m + 3)) s2 (w rs.length))) (by omega) ⟨fun x x1 _ _ => wr_ne x1, fun j hj => by rw [wr_same, up_ne hj]⟩ (by rw [wr_same, up_same]) (fun k' hk' => by omega)
  simp (disch := omega) only [q_174_0, q_174_1, q_174_4, q_174_5, q_174_6, q_174_9, q_174_10, q_174_11, q_174_12, q_174_13, q_174_15, q_174_16, q_174_19, q_174_20, q_174_21, q_174_24, q_174_25, q_174_26, q_174_27, q_174_28, q_174_29, q_174_32, q_174_35, q_174_38, q_174_e, va_rf_s, bz_0, bz_1, bz_ok, bb_ok, Nat.add_assoc, w_lt, w_add, w_sub, w_mul, w_div, em_def, w_eq, w_inT, ↓ilt_t, ↓ilt_f, ↓ieq_t, ↓ieq_f, ntT, w_b, w_ix, kx_v, kx_n, kl_n, kl_i, kl_r, kl_o, inA_i, inA_s, inA_b, inA_z, inA_l, inA_0, inA_4, inA_5, inA_6, inA_7, inA_8, inA_9, inA_10, al_0, al_1, al_2, al_4, al_5, al_98, bsP_2, bsP_3, wr_same, wr_wr, wr_ne, up_same, up_ne, Nat.reduceAdd, Int.reduceAdd, Int.reduceSub, Int.reduceMul, Int.reduceLT, Int.reduceLE, Int.reduceEq, Int.reduceNeg, Int.reduceToNat, Nat.reduceLT, Nat.reduceLeDiff, Nat.reduceEqDiff, ↓reduceIte, true_and, and_true, not_true_eq_false, not_false_eq_true, eq_self, or_true, true_or, or_false, false_or, if_true, if_false, Int.toNat_natCast, w_ite, Nat.add_zero, reduceCtorEq, ne_eq, hm, hS3, e1]
  exact this
end

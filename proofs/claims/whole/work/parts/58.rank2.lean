/-! the whole sort; the ranking made ready -/
theorem zl_app {a b : List Nat} : zl (a ++ b) = zl a ++ zl b := by unfold zl; rw [List.map_append]
theorem zl_take {a : List Nat} {n : Nat} : zl (a.take n) = (zl a).take n := by unfold zl; rw [List.map_take]
theorem zl_drop {a : List Nat} {n : Nat} : zl (a.drop n) = (zl a).drop n := by unfold zl; rw [List.map_drop]
theorem Sd.congr {I I' : MI} {v : Nat} {n : Int} {t : List Int} (h : Sd I v n t) (e2 : I' (v + 2) = I (v + 2)) (e3 : I' (v + 3) = I (v + 3)) (e4 : I' (v + 4) = I (v + 4)) : Sd I' v n t := by
  unfold Sd Kn at *
  rw [gi_congr e3, gi_congr e4, e2]
  exact h
section
variable {d : Nat} {Q : XO → Hp → Prop} {S : SH} {I : MI} {L : ML} {R : MR} {G : MG} {A : Hp}
variable {k : Nat}
theorem sp_44 {tx : Nat → List Int} {A0 : List Nat} (hK : RankS S k) (h3 : I k 3 = w A0.length) (hl : A0.length ≤ 1001) (hT : Txt (I (k + 18)) 0 (zl A0)) (hS : ∀ n ∈ A0, n ≤ 1000 ∧ Sd I (k + 1) n (tx n))
    (hQ : ∀ I' : MI, (∀ a, a ≠ k + 18 → a ≠ k + 19 → I' a = I a) → Txt (I' (k + 18)) 0 (zl (msr (kle tx) A0.length 1 A0)) → Q (.inl none) (mk S I' L R G)) :
    XC (d + 4) 44 [.ref k] (mk S I L R G) Q := by
  obtain ⟨g0, g1, g2, g3⟩ := id hK
  -- one pass
  have inner : ∀ (wd : Nat) (A : List Nat) (I1 : MI) (v3 : Option Value), 1 ≤ wd → wd ≤ 1001 → A.length = A0.length → (∀ n ∈ A, n ≤ 1000 ∧ Sd I (k + 1) n (tx n)) → (∀ a, a ≠ k + 18 → a ≠ k + 19 → I1 a = I a) → Txt (I1 (k + 18)) 0 (zl A) → (∀ (g : Nat → Int32) (fr : Int) (v3 : Option Value), Txt g 0 (zl (mps (kle tx) wd A.length A)) → XX (d + 4) 44 56 [some (.ref k), some (.int (w wd)), some (.int (w fr)), v3] [] (mk S (wr I1 (k + 19) g) L R G) Q) →
      ∀ (f fr : Nat) (g : Nat → Int32) (P : List Nat) (v3 : Option Value), fr < 4000 → (A.drop fr).length ≤ f * (2 * wd) → Txt g 0 (zl P) → P.length = min fr A.length → P ++ mps (kle tx) wd f (A.drop fr) = mps (kle tx) wd A.length A → XX (d + 4) 44 12 [some (.ref k), some (.int (w wd)), some (.int (w fr)), v3] [] (mk S (wr I1 (k + 19) g) L R G) Q := by
    intro wd A I1 v3 hw hw2 hA hSA hf hTA hend f
    induction f with
    | zero =>
      intro fr g P v3 hfr hd hP hPl hPe
      rw [List.length_drop] at hd
      have e3 : I1 k 3 = w A0.length := by rw [hf _ (by omega) (by omega)]; exact h3
      rw [q_44_12]
      simp (disch := omega) only [q_44_0, q_44_1, q_44_3, q_44_4, q_44_7, q_44_10, q_44_11, q_44_13, q_44_14, q_44_17, q_44_20, q_44_21, q_44_22, q_44_23, q_44_24, q_44_27, q_44_30, q_44_31, q_44_32, q_44_33, q_44_34, q_44_35, q_44_36, q_44_37, q_44_38, q_44_41, q_44_44, q_44_47, q_44_48, q_44_49, q_44_50, q_44_51, q_44_52, q_44_53, q_44_57, q_44_60, q_44_61, q_44_62, q_44_65, q_44_66, q_44_67, q_44_70, q_44_73, q_44_74, q_44_75, q_44_76, q_44_77, q_44_80, q_44_e, va_rf_s, bz_0, bz_1, bz_ok, bb_ok, Nat.add_assoc, w_lt, w_add, w_sub, w_mul, w_div, em_def, w_eq, w_inT, ↓ilt_t, ↓ilt_f, ↓ieq_t, ↓ieq_f, ntT, w_b, w_ix, kx_v, kx_n, kl_n, kl_i, kl_r, kl_o, inA_i, inA_s, inA_b, inA_z, inA_l, inA_0, inA_4, inA_5, inA_6, inA_7, inA_8, inA_9, inA_10, al_0, al_1, al_2, al_4, al_5, al_98, bsP_2, bsP_3, wr_same, wr_wr, wr_ne, up_same, up_ne, Nat.reduceAdd, Int.reduceAdd, Int.reduceSub, Int.reduceMul, Int.reduceLT, Int.reduceLE, Int.reduceEq, Int.reduceNeg, Int.reduceToNat, Nat.reduceLT, Nat.reduceLeDiff, Nat.reduceEqDiff, ↓reduceIte, true_and, and_true, not_true_eq_false, not_false_eq_true, eq_self, or_true, true_or, or_false, false_or, if_true, if_false, Int.toNat_natCast, w_ite, Nat.add_zero, reduceCtorEq, ne_eq, g0, e3]
      refine hend g fr _ ?_
      rw [← hPe, show mps (kle tx) wd 0 (A.drop fr) = [] from rfl, List.append_nil]
      exact hP
    | succ f ih =>
      intro fr g P v3 hfr hd hP hPl hPe
      have e3 : I1 k 3 = w A0.length := by rw [hf _ (by omega) (by omega)]; exact h3
      have hd2 := hd
      rw [List.length_drop] at hd
      rw [q_44_12]
      by_cases c : A.length ≤ fr
      · simp (disch := omega) only [q_44_0, q_44_1, q_44_3, q_44_4, q_44_7, q_44_10, q_44_11, q_44_13, q_44_14, q_44_17, q_44_20, q_44_21, q_44_22, q_44_23, q_44_24, q_44_27, q_44_30, q_44_31, q_44_32, q_44_33, q_44_34, q_44_35, q_44_36, q_44_37, q_44_38, q_44_41, q_44_44, q_44_47, q_44_48, q_44_49, q_44_50, q_44_51, q_44_52, q_44_53, q_44_57, q_44_60, q_44_61, q_44_62, q_44_65, q_44_66, q_44_67, q_44_70, q_44_73, q_44_74, q_44_75, q_44_76, q_44_77, q_44_80, q_44_e, va_rf_s, bz_0, bz_1, bz_ok, bb_ok, Nat.add_assoc, w_lt, w_add, w_sub, w_mul, w_div, em_def, w_eq, w_inT, ↓ilt_t, ↓ilt_f, ↓ieq_t, ↓ieq_f, ntT, w_b, w_ix, kx_v, kx_n, kl_n, kl_i, kl_r, kl_o, inA_i, inA_s, inA_b, inA_z, inA_l, inA_0, inA_4, inA_5, inA_6, inA_7, inA_8, inA_9, inA_10, al_0, al_1, al_2, al_4, al_5, al_98, bsP_2, bsP_3, wr_same, wr_wr, wr_ne, up_same, up_ne, Nat.reduceAdd, Int.reduceAdd, Int.reduceSub, Int.reduceMul, Int.reduceLT, Int.reduceLE, Int.reduceEq, Int.reduceNeg, Int.reduceToNat, Nat.reduceLT, Nat.reduceLeDiff, Nat.reduceEqDiff, ↓reduceIte, true_and, and_true, not_true_eq_false, not_false_eq_true, eq_self, or_true, true_or, or_false, false_or, if_true, if_false, Int.toNat_natCast, w_ite, Nat.add_zero, reduceCtorEq, ne_eq, g0, e3]
        refine hend g fr _ ?_
        rw [← hPe, List.drop_eq_nil_of_le c]
        unfold mps
        rw [if_pos rfl, List.append_nil]
        exact hP
      · have hne : ¬ A.drop fr = [] := fun e => by have := congrArg List.length e; rw [List.length_drop, List.length_nil] at this; omega
        -- the merge
        have hx : ∀ n ∈ (A.drop fr).take wd, n ≤ 1000 ∧ Sd I1 (k + 1) n (tx n) := fun n hn => by
          have := hSA n (List.mem_of_mem_drop (List.mem_of_mem_take hn))
          exact ⟨this.1, this.2.congr (hf _ (by omega) (by omega)) (hf _ (by omega) (by omega)) (hf _ (by omega) (by omega))⟩
        have hy : ∀ n ∈ ((A.drop fr).drop wd).take wd, n ≤ 1000 ∧ Sd I1 (k + 1) n (tx n) := fun n hn => by
          have := hSA n (List.mem_of_mem_drop (List.mem_of_mem_drop (List.mem_of_mem_take hn)))
          exact ⟨this.1, this.2.congr (hf _ (by omega) (by omega)) (hf _ (by omega) (by omega)) (hf _ (by omega) (by omega))⟩
        have tx1 : Txt (I1 (k + 18)) fr (zl ((A.drop fr).take wd)) := by
          have := (hTA.drop fr).take wd
          rw [Nat.zero_add] at this
          rw [zl_take, zl_drop]; exact this
        have ty1 : Txt (I1 (k + 18)) (min (fr + wd) A.length) (zl (((A.drop fr).drop wd).take wd)) := by
          rw [List.drop_drop]
          by_cases c2 : fr + wd ≤ A.length
          · rw [Nat.min_eq_left c2]
            have := (hTA.drop (fr + wd)).take wd
            rw [Nat.zero_add] at this
            rw [zl_take, zl_drop]; exact this
          · rw [List.drop_eq_nil_of_le (by omega)]
            intro i hi
            simp [zl] at hi
        have lx : ((A.drop fr).take wd).length = min (fr + wd) A.length - fr := by rw [List.length_take, List.length_drop]; omega
        have ly : (((A.drop fr).drop wd).take wd).length = min (min (fr + wd) A.length + wd) A.length - min (fr + wd) A.length := by rw [List.length_take, List.length_drop, List.length_drop]; omega
        have s45 := fun o => sp_45 (d := d) (Q := XK (d + 4) 44 44 [some (.ref k), some (.int (w wd)), some (.int (w fr)), some (.int (w ((min (fr + wd) A.length : Nat) : Int)))] [] Q) (L := L) (R := R) (G := G) (I := I1) (fr := fr) hK _ _ _ fr (min (fr + wd) A.length) fr g o rfl hx hy tx1 ty1 (by rw [lx]; omega) (by rw [ly]; omega) (by rw [lx, ly]; omega)
        have hn := ih (fr + 2 * wd) (pw g fr (zl (mg (kle tx) ((A.drop fr).take wd) (((A.drop fr).drop wd).take wd)))) (P ++ mg (kle tx) ((A.drop fr).take wd) (((A.drop fr).drop wd).take wd)) (some (.int (w ((min (fr + wd) A.length : Nat) : Int)))) (by omega) (by rw [List.length_drop, Nat.add_mul] at *; omega) (by
          rw [zl_app]
          refine Txt_app (Txt_congr hP (fun j _ hj => pw_out (by rw [zl_len] at hj; omega))) ?_
          rw [zl_len, Nat.zero_add, hPl, Nat.min_eq_left (by omega)]
          exact pw_txt _ _ _) (by rw [List.length_append, mg_len, lx, ly, hPl]; omega) (by
          rw [List.append_assoc, ← hPe]
          congr 1
          rw [← List.drop_drop]
          conv => rhs; unfold mps
          rw [if_neg hne])
        rw [show fr + ((A.drop fr).take wd).length = min (fr + wd) A.length by rw [lx]; omega, show min (fr + wd) A.length + (((A.drop fr).drop wd).take wd).length = min (min (fr + wd) A.length + wd) A.length by rw [ly]; omega] at s45
        generalize mg (kle tx) ((A.drop fr).take wd) (((A.drop fr).drop wd).take wd) = M at s45 hn
        have em : (if (A0.length : Int) < fr + wd then (A0.length : Int) else fr + wd) = ((min (fr + wd) A.length : Nat) : Int) := by split <;> omega
        have em2 : (if (A0.length : Int) < ((min (fr + wd) A.length : Nat) : Int) + wd then (A0.length : Int) else ((min (fr + wd) A.length : Nat) : Int) + wd) = ((min (min (fr + wd) A.length + wd) A.length : Nat) : Int) := by split <;> omega
        generalize hmid : min (fr + wd) A.length = mid at *
        generalize hend2 : min (mid + wd) A.length = en at *
        simp (disch := omega) only [q_44_0, q_44_1, q_44_3, q_44_4, q_44_7, q_44_10, q_44_11, q_44_13, q_44_14, q_44_17, q_44_20, q_44_21, q_44_22, q_44_23, q_44_24, q_44_27, q_44_30, q_44_31, q_44_32, q_44_33, q_44_34, q_44_35, q_44_36, q_44_37, q_44_38, q_44_41, q_44_44, q_44_47, q_44_48, q_44_49, q_44_50, q_44_51, q_44_52, q_44_53, q_44_57, q_44_60, q_44_61, q_44_62, q_44_65, q_44_66, q_44_67, q_44_70, q_44_73, q_44_74, q_44_75, q_44_76, q_44_77, q_44_80, q_44_e, q_45_0, q_45_1, q_45_3, q_45_4, q_45_6, q_45_7, q_45_11, q_45_12, q_45_15, q_45_17, q_45_18, q_45_21, q_45_23, q_45_24, q_45_27, q_45_28, q_45_29, q_45_32, q_45_34, q_45_35, q_45_36, q_45_39, q_45_41, q_45_42, q_45_45, q_45_48, q_45_49, q_45_52, q_45_53, q_45_55, q_45_57, q_45_60, q_45_61, q_45_64, q_45_66, q_45_67, q_45_70, q_45_72, q_45_73, q_45_74, q_45_77, q_45_80, q_45_81, q_45_84, q_45_86, q_45_87, q_45_90, q_45_92, q_45_93, q_45_94, q_45_97, q_45_100, q_45_103, q_45_e, va_rf_s, bz_0, bz_1, bz_ok, bb_ok, Nat.add_assoc, w_lt, w_add, w_sub, w_mul, w_div, em_def, w_eq, w_inT, ↓ilt_t, ↓ilt_f, ↓ieq_t, ↓ieq_f, ntT, w_b, w_ix, kx_v, kx_n, kl_n, kl_i, kl_r, kl_o, inA_i, inA_s, inA_b, inA_z, inA_l, inA_0, inA_4, inA_5, inA_6, inA_7, inA_8, inA_9, inA_10, al_0, al_1, al_2, al_4, al_5, al_98, bsP_2, bsP_3, wr_same, wr_wr, wr_ne, up_same, up_ne, Nat.reduceAdd, Int.reduceAdd, Int.reduceSub, Int.reduceMul, Int.reduceLT, Int.reduceLE, Int.reduceEq, Int.reduceNeg, Int.reduceToNat, Nat.reduceLT, Nat.reduceLeDiff, Nat.reduceEqDiff, ↓reduceIte, true_and, and_true, not_true_eq_false, not_false_eq_true, eq_self, or_true, true_or, or_false, false_or, if_true, if_false, Int.toNat_natCast, w_ite, Nat.add_zero, reduceCtorEq, ne_eq, g0, e3, em, em2]
        refine (s45 none).mpr ?_
        simp (disch := omega) only [q_44_0, q_44_1, q_44_3, q_44_4, q_44_7, q_44_10, q_44_11, q_44_13, q_44_14, q_44_17, q_44_20, q_44_21, q_44_22, q_44_23, q_44_24, q_44_27, q_44_30, q_44_31, q_44_32, q_44_33, q_44_34, q_44_35, q_44_36, q_44_37, q_44_38, q_44_41, q_44_44, q_44_47, q_44_48, q_44_49, q_44_50, q_44_51, q_44_52, q_44_53, q_44_57, q_44_60, q_44_61, q_44_62, q_44_65, q_44_66, q_44_67, q_44_70, q_44_73, q_44_74, q_44_75, q_44_76, q_44_77, q_44_80, q_44_e, va_rf_s, bz_0, bz_1, bz_ok, bb_ok, Nat.add_assoc, w_lt, w_add, w_sub, w_mul, w_div, em_def, w_eq, w_inT, ↓ilt_t, ↓ilt_f, ↓ieq_t, ↓ieq_f, ntT, w_b, w_ix, kx_v, kx_n, kl_n, kl_i, kl_r, kl_o, inA_i, inA_s, inA_b, inA_z, inA_l, inA_0, inA_4, inA_5, inA_6, inA_7, inA_8, inA_9, inA_10, al_0, al_1, al_2, al_4, al_5, al_98, bsP_2, bsP_3, wr_same, wr_wr, wr_ne, up_same, up_ne, Nat.reduceAdd, Int.reduceAdd, Int.reduceSub, Int.reduceMul, Int.reduceLT, Int.reduceLE, Int.reduceEq, Int.reduceNeg, Int.reduceToNat, Nat.reduceLT, Nat.reduceLeDiff, Nat.reduceEqDiff, ↓reduceIte, true_and, and_true, not_true_eq_false, not_false_eq_true, eq_self, or_true, true_or, or_false, false_or, if_true, if_false, Int.toNat_natCast, w_ite, Nat.add_zero, reduceCtorEq, ne_eq]
        have e2w : (fr : Int) + 2 * wd = ((fr + 2 * wd : Nat) : Int) := by omega
        rw [e2w]
        exact hn
  have outer : ∀ (f wd : Nat) (A : List Nat) (I1 : MI) (v2 v3 : Option Value), 1 ≤ wd → wd ≤ 2002 → (wd ≤ 1001 ∨ A.length ≤ wd) → A.length = A0.length → A.length ≤ wd * 2 ^ f → (∀ n ∈ A, n ≤ 1000 ∧ Sd I (k + 1) n (tx n)) → (∀ a, a ≠ k + 18 → a ≠ k + 19 → I1 a = I a) → Txt (I1 (k + 18)) 0 (zl A) → msr (kle tx) f wd A = msr (kle tx) A0.length 1 A0 → XX (d + 4) 44 2 [some (.ref k), some (.int (w wd)), v2, v3] [] (mk S I1 L R G) Q := by
    intro f
    induction f with
    | zero =>
      intro wd A I1 v2 v3 h1 h2 h2' h3' h4 h5 h6 h7 h8
      have e3 : I1 k 3 = w A0.length := by rw [h6 _ (by omega) (by omega)]; exact h3
      rw [Nat.pow_zero, Nat.mul_one] at h4
      rw [q_44_2]
      simp (disch := omega) only [q_44_0, q_44_1, q_44_3, q_44_4, q_44_7, q_44_10, q_44_11, q_44_13, q_44_14, q_44_17, q_44_20, q_44_21, q_44_22, q_44_23, q_44_24, q_44_27, q_44_30, q_44_31, q_44_32, q_44_33, q_44_34, q_44_35, q_44_36, q_44_37, q_44_38, q_44_41, q_44_44, q_44_47, q_44_48, q_44_49, q_44_50, q_44_51, q_44_52, q_44_53, q_44_57, q_44_60, q_44_61, q_44_62, q_44_65, q_44_66, q_44_67, q_44_70, q_44_73, q_44_74, q_44_75, q_44_76, q_44_77, q_44_80, q_44_e, va_rf_s, bz_0, bz_1, bz_ok, bb_ok, Nat.add_assoc, w_lt, w_add, w_sub, w_mul, w_div, em_def, w_eq, w_inT, ↓ilt_t, ↓ilt_f, ↓ieq_t, ↓ieq_f, ntT, w_b, w_ix, kx_v, kx_n, kl_n, kl_i, kl_r, kl_o, inA_i, inA_s, inA_b, inA_z, inA_l, inA_0, inA_4, inA_5, inA_6, inA_7, inA_8, inA_9, inA_10, al_0, al_1, al_2, al_4, al_5, al_98, bsP_2, bsP_3, wr_same, wr_wr, wr_ne, up_same, up_ne, Nat.reduceAdd, Int.reduceAdd, Int.reduceSub, Int.reduceMul, Int.reduceLT, Int.reduceLE, Int.reduceEq, Int.reduceNeg, Int.reduceToNat, Nat.reduceLT, Nat.reduceLeDiff, Nat.reduceEqDiff, ↓reduceIte, true_and, and_true, not_true_eq_false, not_false_eq_true, eq_self, or_true, true_or, or_false, false_or, if_true, if_false, Int.toNat_natCast, w_ite, Nat.add_zero, reduceCtorEq, ne_eq, g0, e3]
      exact hQ I1 h6 (by rw [← h8]; exact h7)
    | succ f ih =>
      intro wd A I1 v2 v3 h1 h2 h2' h3' h4 h5 h6 h7 h8
      have e3 : I1 k 3 = w A0.length := by rw [h6 _ (by omega) (by omega)]; exact h3
      rw [q_44_2]
      by_cases c : wd < A.length
      · simp (disch := omega) only [q_44_0, q_44_1, q_44_3, q_44_4, q_44_7, q_44_10, q_44_11, q_44_13, q_44_14, q_44_17, q_44_20, q_44_21, q_44_22, q_44_23, q_44_24, q_44_27, q_44_30, q_44_31, q_44_32, q_44_33, q_44_34, q_44_35, q_44_36, q_44_37, q_44_38, q_44_41, q_44_44, q_44_47, q_44_48, q_44_49, q_44_50, q_44_51, q_44_52, q_44_53, q_44_57, q_44_60, q_44_61, q_44_62, q_44_65, q_44_66, q_44_67, q_44_70, q_44_73, q_44_74, q_44_75, q_44_76, q_44_77, q_44_80, q_44_e, va_rf_s, bz_0, bz_1, bz_ok, bb_ok, Nat.add_assoc, w_lt, w_add, w_sub, w_mul, w_div, em_def, w_eq, w_inT, ↓ilt_t, ↓ilt_f, ↓ieq_t, ↓ieq_f, ntT, w_b, w_ix, kx_v, kx_n, kl_n, kl_i, kl_r, kl_o, inA_i, inA_s, inA_b, inA_z, inA_l, inA_0, inA_4, inA_5, inA_6, inA_7, inA_8, inA_9, inA_10, al_0, al_1, al_2, al_4, al_5, al_98, bsP_2, bsP_3, wr_same, wr_wr, wr_ne, up_same, up_ne, Nat.reduceAdd, Int.reduceAdd, Int.reduceSub, Int.reduceMul, Int.reduceLT, Int.reduceLE, Int.reduceEq, Int.reduceNeg, Int.reduceToNat, Nat.reduceLT, Nat.reduceLeDiff, Nat.reduceEqDiff, ↓reduceIte, true_and, and_true, not_true_eq_false, not_false_eq_true, eq_self, or_true, true_or, or_false, false_or, if_true, if_false, Int.toNat_natCast, w_ite, Nat.add_zero, reduceCtorEq, ne_eq, g0, e3]
        rw [msr, if_pos c] at h8
        have hlen := mps_len (le := kle tx) A.length A wd h1 (len_mul h1)
        have := inner wd A I1 v3 h1 (by omega) h3' h5 h6 h7 (fun g fr v3 hg => by
          have e3' : wr I1 (k + 19) g k 3 = w A0.length := by rw [wr_ne (by omega)]; exact e3
          simp (disch := omega) only [q_44_0, q_44_1, q_44_3, q_44_4, q_44_7, q_44_10, q_44_11, q_44_13, q_44_14, q_44_17, q_44_20, q_44_21, q_44_22, q_44_23, q_44_24, q_44_27, q_44_30, q_44_31, q_44_32, q_44_33, q_44_34, q_44_35, q_44_36, q_44_37, q_44_38, q_44_41, q_44_44, q_44_47, q_44_48, q_44_49, q_44_50, q_44_51, q_44_52, q_44_53, q_44_56, q_44_57, q_44_60, q_44_61, q_44_62, q_44_65, q_44_66, q_44_67, q_44_73, q_44_74, q_44_75, q_44_76, q_44_77, q_44_80, q_44_e, va_rf_s, bz_0, bz_1, bz_ok, bb_ok, Nat.add_assoc, w_lt, w_add, w_sub, w_mul, w_div, em_def, w_eq, w_inT, ↓ilt_t, ↓ilt_f, ↓ieq_t, ↓ieq_f, ntT, w_b, w_ix, kx_v, kx_n, kl_n, kl_i, kl_r, kl_o, inA_i, inA_s, inA_b, inA_z, inA_l, inA_0, inA_4, inA_5, inA_6, inA_7, inA_8, inA_9, inA_10, al_0, al_1, al_2, al_4, al_5, al_98, bsP_2, bsP_3, wr_same, wr_wr, wr_ne, up_same, up_ne, Nat.reduceAdd, Int.reduceAdd, Int.reduceSub, Int.reduceMul, Int.reduceLT, Int.reduceLE, Int.reduceEq, Int.reduceNeg, Int.reduceToNat, Nat.reduceLT, Nat.reduceLeDiff, Nat.reduceEqDiff, ↓reduceIte, true_and, and_true, not_true_eq_false, not_false_eq_true, eq_self, or_true, true_or, or_false, false_or, if_true, if_false, Int.toNat_natCast, w_ite, Nat.add_zero, reduceCtorEq, ne_eq, g0, e3]
          rw [q_44_70 g3 g2 (Or.inl rfl)]
          refine ⟨⟨by omega, by decide, by decide, ?_, ?_, ?_⟩, ?_⟩
          · rw [w_lt (by omega) (by omega) (by decide) (by decide)]; omega
          · rw [w_ix (by decide) (by decide), w_ix (by omega) (by omega)]; omega
          · rw [w_ix (by decide) (by decide), w_ix (by omega) (by omega)]; omega
          rw [w_ix (by decide) (by decide), w_ix (by omega) (by omega), wr_same, wr_ne (by omega), Int.toNat_natCast]
          have hcp : va_cpy g (I1 (k + 18)) (0 : Int).toNat (0 : Int).toNat A0.length = pw (I1 (k + 18)) 0 (zl (mps (kle tx) wd A.length A)) := by
            have := cpy_pw (g := I1 (k + 18)) (q := 0) hg
            rw [zl_len, hlen] at this
            rw [← h3']
            exact this
          rw [hcp]
          simp (disch := omega) only [q_44_0, q_44_1, q_44_3, q_44_4, q_44_7, q_44_10, q_44_11, q_44_13, q_44_14, q_44_17, q_44_20, q_44_21, q_44_22, q_44_23, q_44_24, q_44_27, q_44_30, q_44_31, q_44_32, q_44_33, q_44_34, q_44_35, q_44_36, q_44_37, q_44_38, q_44_41, q_44_44, q_44_47, q_44_48, q_44_49, q_44_50, q_44_51, q_44_52, q_44_53, q_44_56, q_44_57, q_44_60, q_44_61, q_44_62, q_44_65, q_44_66, q_44_67, q_44_73, q_44_74, q_44_75, q_44_76, q_44_77, q_44_80, q_44_e, va_rf_s, bz_0, bz_1, bz_ok, bb_ok, Nat.add_assoc, w_lt, w_add, w_sub, w_mul, w_div, em_def, w_eq, w_inT, ↓ilt_t, ↓ilt_f, ↓ieq_t, ↓ieq_f, ntT, w_b, w_ix, kx_v, kx_n, kl_n, kl_i, kl_r, kl_o, inA_i, inA_s, inA_b, inA_z, inA_l, inA_0, inA_4, inA_5, inA_6, inA_7, inA_8, inA_9, inA_10, al_0, al_1, al_2, al_4, al_5, al_98, bsP_2, bsP_3, wr_same, wr_wr, wr_ne, up_same, up_ne, Nat.reduceAdd, Int.reduceAdd, Int.reduceSub, Int.reduceMul, Int.reduceLT, Int.reduceLE, Int.reduceEq, Int.reduceNeg, Int.reduceToNat, Nat.reduceLT, Nat.reduceLeDiff, Nat.reduceEqDiff, ↓reduceIte, true_and, and_true, not_true_eq_false, not_false_eq_true, eq_self, or_true, true_or, or_false, false_or, if_true, if_false, Int.toNat_natCast, w_ite, Nat.add_zero, reduceCtorEq, ne_eq]
          have := ih (2 * wd) (mps (kle tx) wd A.length A) (wr (wr I1 (k + 19) g) (k + 18) (pw (I1 (k + 18)) 0 (zl (mps (kle tx) wd A.length A)))) (some (.int (w fr))) v3 (by omega) (by omega) (by omega) (by rw [hlen]; exact h3') (by
            rw [hlen]
            rw [Nat.pow_succ, ← Nat.mul_assoc] at h4
            rw [Nat.mul_comm 2 wd, Nat.mul_right_comm]
            exact h4) (fun n hn => h5 n ((mps_mem _ _ _ _ (len_mul h1)).mp hn)) (fun a ha hb => by rw [wr_ne ha, wr_ne hb, h6 a ha hb]) (by rw [wr_same]; exact pw_txt _ _ _) h8
          rw [show (wd : Int) * 2 = ((2 * wd : Nat) : Int) by omega]
          exact this) A.length 0 (I1 (k + 19)) [] v3 (by omega) (by rw [List.drop_zero]; exact len_mul h1) (fun i hi => by simp [zl] at hi) (by simp) (by rw [List.drop_zero]; rfl)
        rw [wr_self] at this
        exact this
      · simp (disch := omega) only [q_44_0, q_44_1, q_44_3, q_44_4, q_44_7, q_44_10, q_44_11, q_44_13, q_44_14, q_44_17, q_44_20, q_44_21, q_44_22, q_44_23, q_44_24, q_44_27, q_44_30, q_44_31, q_44_32, q_44_33, q_44_34, q_44_35, q_44_36, q_44_37, q_44_38, q_44_41, q_44_44, q_44_47, q_44_48, q_44_49, q_44_50, q_44_51, q_44_52, q_44_53, q_44_57, q_44_60, q_44_61, q_44_62, q_44_65, q_44_66, q_44_67, q_44_70, q_44_73, q_44_74, q_44_75, q_44_76, q_44_77, q_44_80, q_44_e, va_rf_s, bz_0, bz_1, bz_ok, bb_ok, Nat.add_assoc, w_lt, w_add, w_sub, w_mul, w_div, em_def, w_eq, w_inT, ↓ilt_t, ↓ilt_f, ↓ieq_t, ↓ieq_f, ntT, w_b, w_ix, kx_v, kx_n, kl_n, kl_i, kl_r, kl_o, inA_i, inA_s, inA_b, inA_z, inA_l, inA_0, inA_4, inA_5, inA_6, inA_7, inA_8, inA_9, inA_10, al_0, al_1, al_2, al_4, al_5, al_98, bsP_2, bsP_3, wr_same, wr_wr, wr_ne, up_same, up_ne, Nat.reduceAdd, Int.reduceAdd, Int.reduceSub, Int.reduceMul, Int.reduceLT, Int.reduceLE, Int.reduceEq, Int.reduceNeg, Int.reduceToNat, Nat.reduceLT, Nat.reduceLeDiff, Nat.reduceEqDiff, ↓reduceIte, true_and, and_true, not_true_eq_false, not_false_eq_true, eq_self, or_true, true_or, or_false, false_or, if_true, if_false, Int.toNat_natCast, w_ite, Nat.add_zero, reduceCtorEq, ne_eq, g0, e3]
        rw [msr, if_neg c] at h8
        exact hQ I1 h6 (by rw [← h8]; exact h7)
  have := outer A0.length 1 A0 I none none (by decide) (by decide) (by omega) rfl (by rw [Nat.one_mul]; exact Nat.le_of_lt Nat.lt_two_pow_self) hS (fun _ _ _ => rfl) hT rfl
  simp (disch := omega) only [q_44_0, q_44_1, q_44_3, q_44_4, q_44_7, q_44_10, q_44_11, q_44_13, q_44_14, q_44_17, q_44_20, q_44_21, q_44_22, q_44_23, q_44_24, q_44_27, q_44_30, q_44_31, q_44_32, q_44_33, q_44_34, q_44_35, q_44_36, q_44_37, q_44_38, q_44_41, q_44_44, q_44_47, q_44_48, q_44_49, q_44_50, q_44_51, q_44_52, q_44_53, q_44_57, q_44_60, q_44_61, q_44_62, q_44_65, q_44_66, q_44_67, q_44_70, q_44_73, q_44_74, q_44_75, q_44_76, q_44_77, q_44_80, q_44_e, va_rf_s, bz_0, bz_1, bz_ok, bb_ok, Nat.add_assoc, w_lt, w_add, w_sub, w_mul, w_div, em_def, w_eq, w_inT, ↓ilt_t, ↓ilt_f, ↓ieq_t, ↓ieq_f, ntT, w_b, w_ix, kx_v, kx_n, kl_n, kl_i, kl_r, kl_o, inA_i, inA_s, inA_b, inA_z, inA_l, inA_0, inA_4, inA_5, inA_6, inA_7, inA_8, inA_9, inA_10, al_0, al_1, al_2, al_4, al_5, al_98, bsP_2, bsP_3, wr_same, wr_wr, wr_ne, up_same, up_ne, Nat.reduceAdd, Int.reduceAdd, Int.reduceSub, Int.reduceMul, Int.reduceLT, Int.reduceLE, Int.reduceEq, Int.reduceNeg, Int.reduceToNat, Nat.reduceLT, Nat.reduceLeDiff, Nat.reduceEqDiff, ↓reduceIte, true_and, and_true, not_true_eq_false, not_false_eq_true, eq_self, or_true, true_or, or_false, false_or, if_true, if_false, Int.toNat_natCast, w_ite, Nat.add_zero, reduceCtorEq, ne_eq]
  exact this
end

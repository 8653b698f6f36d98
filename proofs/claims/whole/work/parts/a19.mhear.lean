/-! the model hears a text: its words -/
def HwM (I : MI) (m : Nat) (l : List Int) (st en : List Nat) : Prop := I m 36 = w st.length ∧ Txt (I (m + 6585)) 0 l ∧ Txt (I (m + 6586)) 0 (zl st) ∧ Txt (I (m + 6587)) 0 (zl en)
def HwF (I I' : MI) (m : Nat) : Prop := (∀ x, x ≠ m → (x < m + 6585 ∨ m + 6587 < x) → I' x = I x) ∧ ∀ j, j ≠ 36 → I' m j = I m j
theorem HwF.trans {I I1 I2 : MI} {m : Nat} (h : HwF I I1 m) (h' : HwF I1 I2 m) : HwF I I2 m := ⟨fun x h1 h2 => (h'.1 x h1 h2).trans (h.1 x h1 h2), fun j hj => (h'.2 j hj).trans (h.2 j hj)⟩
section
variable {d : Nat} {Q : XO → Hp → Prop} {S : SH} {I : MI} {L : ML} {R : MR} {G : MG} {A : Hp}
variable {m : Nat} {s : St} {two : Bool}
theorem sp_163 {x : Int} (h1 : -2147483648 ≤ x) (h2 : x < 2147483648) : XC d 163 [.int (w x)] A Q ↔ Q (.inl (some (.int (bz (isl x))))) A := by
  unfold isl
  by_cases c1 : 97 ≤ x
  · by_cases c2 : x ≤ 122
    · rw [decide_eq_true c1, decide_eq_true c2]
      simp (disch := omega) only [q_163_0, q_163_1, q_163_3, q_163_6, q_163_7, q_163_9, q_163_12, q_163_13, q_163_16, q_163_17, q_163_e, va_rf_s, bz_0, bz_1, bz_ok, bb_ok, Nat.add_assoc, w_lt, w_add, w_sub, w_mul, w_div, em_def, w_eq, w_inT, ↓ilt_t, ↓ilt_f, ↓ieq_t, ↓ieq_f, ntT, w_b, w_ix, kx_v, kx_n, kl_n, kl_i, kl_r, kl_o, inA_i, inA_s, inA_b, inA_z, inA_l, inA_0, inA_4, inA_5, inA_6, inA_7, inA_8, inA_9, inA_10, al_0, al_1, al_2, al_4, al_5, al_98, bsP_2, bsP_3, wr_same, wr_wr, wr_ne, up_same, up_ne, Nat.reduceAdd, Int.reduceAdd, Int.reduceSub, Int.reduceMul, Int.reduceLT, Int.reduceLE, Int.reduceEq, Int.reduceNeg, Int.reduceToNat, Nat.reduceLT, Nat.reduceLeDiff, Nat.reduceEqDiff, ↓reduceIte, true_and, and_true, not_true_eq_false, not_false_eq_true, eq_self, or_true, true_or, or_false, false_or, if_true, if_false, Int.toNat_natCast, w_ite, Nat.add_zero, reduceCtorEq, ne_eq]
      exact Iff.rfl
    · rw [decide_eq_true c1, decide_eq_false c2]
      simp (disch := omega) only [q_163_0, q_163_1, q_163_3, q_163_6, q_163_7, q_163_9, q_163_12, q_163_13, q_163_16, q_163_17, q_163_e, va_rf_s, bz_0, bz_1, bz_ok, bb_ok, Nat.add_assoc, w_lt, w_add, w_sub, w_mul, w_div, em_def, w_eq, w_inT, ↓ilt_t, ↓ilt_f, ↓ieq_t, ↓ieq_f, ntT, w_b, w_ix, kx_v, kx_n, kl_n, kl_i, kl_r, kl_o, inA_i, inA_s, inA_b, inA_z, inA_l, inA_0, inA_4, inA_5, inA_6, inA_7, inA_8, inA_9, inA_10, al_0, al_1, al_2, al_4, al_5, al_98, bsP_2, bsP_3, wr_same, wr_wr, wr_ne, up_same, up_ne, Nat.reduceAdd, Int.reduceAdd, Int.reduceSub, Int.reduceMul, Int.reduceLT, Int.reduceLE, Int.reduceEq, Int.reduceNeg, Int.reduceToNat, Nat.reduceLT, Nat.reduceLeDiff, Nat.reduceEqDiff, ↓reduceIte, true_and, and_true, not_true_eq_false, not_false_eq_true, eq_self, or_true, true_or, or_false, false_or, if_true, if_false, Int.toNat_natCast, w_ite, Nat.add_zero, reduceCtorEq, ne_eq]
      exact Iff.rfl
  · rw [decide_eq_false c1, Bool.false_and]
    simp (disch := omega) only [q_163_0, q_163_1, q_163_3, q_163_6, q_163_7, q_163_9, q_163_12, q_163_13, q_163_16, q_163_17, q_163_e, va_rf_s, bz_0, bz_1, bz_ok, bb_ok, Nat.add_assoc, w_lt, w_add, w_sub, w_mul, w_div, em_def, w_eq, w_inT, ↓ilt_t, ↓ilt_f, ↓ieq_t, ↓ieq_f, ntT, w_b, w_ix, kx_v, kx_n, kl_n, kl_i, kl_r, kl_o, inA_i, inA_s, inA_b, inA_z, inA_l, inA_0, inA_4, inA_5, inA_6, inA_7, inA_8, inA_9, inA_10, al_0, al_1, al_2, al_4, al_5, al_98, bsP_2, bsP_3, wr_same, wr_wr, wr_ne, up_same, up_ne, Nat.reduceAdd, Int.reduceAdd, Int.reduceSub, Int.reduceMul, Int.reduceLT, Int.reduceLE, Int.reduceEq, Int.reduceNeg, Int.reduceToNat, Nat.reduceLT, Nat.reduceLeDiff, Nat.reduceEqDiff, ↓reduceIte, true_and, and_true, not_true_eq_false, not_false_eq_true, eq_self, or_true, true_or, or_false, false_or, if_true, if_false, Int.toNat_natCast, w_ite, Nat.add_zero, reduceCtorEq, ne_eq]
    exact Iff.rfl
theorem MS.hw {I' : MI} (h : MS S I R G m s) (hF : HwF I I' m) : MS S I' R G m s := by
  have hl := h.2.2.2.2.2.2.2.2
  exact h.sc (fun a a1 a2 => hF.1 a a1 (by omega)) (fun j j1 j2 => hF.2 j (by omega)) (hl.keep (hF.2 22 (by decide)) (hF.1 _ (by omega) (by omega)) (hF.1 _ (by omega) (by omega)) (hF.1 _ (by omega) (by omega)))
theorem sp_221 {t : List Int} (hL : MLay S R m) (ht : t.length ≤ 400) (hT : Txt (I (m + 2)) 0 t) (hb : ∀ b ∈ t, 0 ≤ b ∧ b < 256)
    (hQ0 : spl t false [] [] [] = none → ∀ I' : MI, HwF I I' m → Q (.inl (some (.int (w 0)))) (mk S I' L R G))
    (hQ1 : ∀ l st en, spl t false [] [] [] = some (l, st, en) → ∀ I' : MI, HwF I I' m → HwM I' m l st en → Q (.inl (some (.int (w 1)))) (mk S I' L R G)) :
    XC (d + 1) 221 [.ref m, .int (w t.length)] (mk S I L R G) Q := by
  have hm := hL.1
  have hS2 := hL.2.2.1
  obtain ⟨x1, x2, x3, -⟩ := hL.2.2.2.2.2.2.2.2.2.1
  generalize hres : spl t false [] [] [] = res at hQ0 hQ1
  have lp : ∀ (j i : Nat) (inW : Bool) (l : List Int) (st en : List Nat) (I1 : MI) (o : Option Value), i + j = t.length → HwF I I1 m → HwM I1 m l st en → st.length = en.length → st.length ≤ 40 → l.length ≤ i → (inW = false → st ≠ [] → l.length + 1 ≤ i) → (st = [] ↔ l = []) → (inW = true → st ≠ []) → (inW = true ↔ 0 < i ∧ t.getD (i - 1) 0 ≠ 32) → spl (t.drop i) inW l st en = res → XX (d + 1) 221 9 [some (.ref m), some (.int (w t.length)), some (.int (w l.length)), some (.int (w i)), o] [] (mk S I1 L R G) Q := by
    intro j
    induction j with
    | zero =>
      intro i inW l st en I1 o hi hF hW e1 e2 e3 e4 e5 e6 e7 hr
      have : i = t.length := by omega
      subst this
      rw [List.drop_length] at hr
      unfold spl at hr
      rw [q_221_9]
      simp (disch := omega) only [q_221_0, q_221_1, q_221_2, q_221_3, q_221_4, q_221_7, q_221_8, q_221_10, q_221_11, q_221_14, q_221_15, q_221_18, q_221_19, q_221_20, q_221_22, q_221_24, q_221_26, q_221_29, q_221_31, q_221_34, q_221_37, q_221_38, q_221_39, q_221_41, q_221_43, q_221_46, q_221_49, q_221_50, q_221_53, q_221_54, q_221_57, q_221_58, q_221_59, q_221_60, q_221_61, q_221_63, q_221_67, q_221_70, q_221_72, q_221_75, q_221_76, q_221_77, q_221_78, q_221_81, q_221_82, q_221_85, q_221_86, q_221_88, q_221_89, q_221_92, q_221_93, q_221_96, q_221_97, q_221_100, q_221_101, q_221_102, q_221_103, q_221_104, q_221_107, q_221_108, q_221_109, q_221_113, q_221_116, q_221_117, q_221_119, q_221_120, q_221_121, q_221_124, q_221_125, q_221_128, q_221_129, q_221_132, q_221_133, q_221_134, q_221_135, q_221_136, q_221_139, q_221_142, q_221_143, q_221_e, va_rf_s, bz_0, bz_1, bz_ok, bb_ok, Nat.add_assoc, w_lt, w_add, w_sub, w_mul, w_div, em_def, w_eq, w_inT, ↓ilt_t, ↓ilt_f, ↓ieq_t, ↓ieq_f, ntT, w_b, w_ix, kx_v, kx_n, kl_n, kl_i, kl_r, kl_o, inA_i, inA_s, inA_b, inA_z, inA_l, inA_0, inA_4, inA_5, inA_6, inA_7, inA_8, inA_9, inA_10, al_0, al_1, al_2, al_4, al_5, al_98, bsP_2, bsP_3, wr_same, wr_wr, wr_ne, up_same, up_ne, Nat.reduceAdd, Int.reduceAdd, Int.reduceSub, Int.reduceMul, Int.reduceLT, Int.reduceLE, Int.reduceEq, Int.reduceNeg, Int.reduceToNat, Nat.reduceLT, Nat.reduceLeDiff, Nat.reduceEqDiff, ↓reduceIte, true_and, and_true, not_true_eq_false, not_false_eq_true, eq_self, or_true, true_or, or_false, false_or, if_true, if_false, Int.toNat_natCast, w_ite, Nat.add_zero, reduceCtorEq, ne_eq]
      exact hQ1 l st en hr.symm I1 hF hW
    | succ j ih =>
      intro i inW l st en I1 o hi hF hW e1 e2 e3 e4 e5 e6 e7 hr
      have hil : i < t.length := by omega
      have hT1 : Txt (I1 (m + 2)) 0 t := by rw [hF.1 _ (by omega) (by omega)]; exact hT
      have ec := hT1 i hil
      rw [Nat.zero_add] at ec
      have hbi : 0 ≤ t.getD i 0 ∧ t.getD i 0 < 256 := by rw [List.getD_eq_getElem?_getD, List.getElem?_eq_getElem hil]; exact hb _ (List.getElem_mem hil)
      rw [drop_cons hil] at hr
      unfold spl at hr
      obtain ⟨h36, hTl, hTs, hTe⟩ := hW
      have s163 := fun {d : Nat} {Q : XO → Hp → Prop} {A : Hp} => sp_163 (d := d) (Q := Q) (A := A) (x := t.getD i 0) (by omega) (by omega)
      have ih' := fun inW l st en I2 o => ih (i + 1) inW l st en I2 o (by omega)
      simp only [Nat.add_sub_cancel] at ih'
      rw [q_221_9]
      by_cases cL : isl (t.getD i 0) = true
      · rw [if_pos cL] at hr
        have hbl := isl_sb' cL
        rw [cL] at s163
        -- a letter goes on
        have put : ∀ (l1 : List Int) (st1 en1 : List Nat) (I2 : MI) (o : Option Value), HwF I I2 m → I2 m 36 = w st1.length → Txt (I2 (m + 6585)) 0 l1 → Txt (I2 (m + 6586)) 0 (zl st1) → Txt (I2 (m + 6587)) 0 (zl en1) → st1.length = en1.length + 1 → st1.length ≤ 40 → l1.length ≤ i → st1 ≠ [] → spl (t.drop (i + 1)) true (l1 ++ [t.getD i 0]) st1 (en1 ++ [l1.length + 1]) = res → XX (d + 1) 221 112 [some (.ref m), some (.int (w t.length)), some (.int (w l1.length)), some (.int (w i)), some (.int (w (t.getD i 0)))] [] (mk S I2 L R G) Q := by
          intro l1 st1 en1 I2 o hF2 f36 fl fs fe g1 g2 g3 g4 hr2
          have wb1 := w_b (a := t.getD i 0) (by omega) (by omega)
          have e38 : ((st1.length : Int) - 1).toNat = en1.length := by omega
          have u1 : ∀ x, x ≠ m + 6585 → x ≠ m + 6587 → wr (wr I2 (m + 6585) (up (I2 (m + 6585)) l1.length (w (t.getD i 0)))) (m + 6587) (up (I2 (m + 6587)) en1.length (w ((l1.length : Int) + 1))) x = I2 x := fun x h1 h2 => by rw [wr_ne h2, wr_ne h1]
          have u2 : wr (wr I2 (m + 6585) (up (I2 (m + 6585)) l1.length (w (t.getD i 0)))) (m + 6587) (up (I2 (m + 6587)) en1.length (w ((l1.length : Int) + 1))) (m + 6585) = up (I2 (m + 6585)) l1.length (w (t.getD i 0)) := by rw [wr_ne (by omega), wr_same]
          have u3 : wr (wr I2 (m + 6585) (up (I2 (m + 6585)) l1.length (w (t.getD i 0)))) (m + 6587) (up (I2 (m + 6587)) en1.length (w ((l1.length : Int) + 1))) (m + 6587) = up (I2 (m + 6587)) en1.length (w ((l1.length : Int) + 1)) := wr_same
          rw [q_221_112]
          simp (disch := omega) only [q_221_0, q_221_1, q_221_2, q_221_3, q_221_4, q_221_7, q_221_8, q_221_10, q_221_11, q_221_14, q_221_15, q_221_18, q_221_19, q_221_20, q_221_22, q_221_24, q_221_26, q_221_29, q_221_31, q_221_34, q_221_37, q_221_38, q_221_39, q_221_41, q_221_43, q_221_46, q_221_49, q_221_50, q_221_53, q_221_54, q_221_57, q_221_58, q_221_59, q_221_60, q_221_61, q_221_63, q_221_67, q_221_70, q_221_72, q_221_75, q_221_76, q_221_77, q_221_78, q_221_81, q_221_82, q_221_85, q_221_86, q_221_88, q_221_89, q_221_92, q_221_93, q_221_96, q_221_97, q_221_100, q_221_101, q_221_102, q_221_103, q_221_104, q_221_107, q_221_108, q_221_109, q_221_113, q_221_116, q_221_117, q_221_119, q_221_120, q_221_121, q_221_124, q_221_125, q_221_128, q_221_129, q_221_132, q_221_133, q_221_134, q_221_135, q_221_136, q_221_139, q_221_142, q_221_143, q_221_e, va_rf_s, bz_0, bz_1, bz_ok, bb_ok, Nat.add_assoc, w_lt, w_add, w_sub, w_mul, w_div, em_def, w_eq, w_inT, ↓ilt_t, ↓ilt_f, ↓ieq_t, ↓ieq_f, ntT, w_b, w_ix, kx_v, kx_n, kl_n, kl_i, kl_r, kl_o, inA_i, inA_s, inA_b, inA_z, inA_l, inA_0, inA_4, inA_5, inA_6, inA_7, inA_8, inA_9, inA_10, al_0, al_1, al_2, al_4, al_5, al_98, bsP_2, bsP_3, wr_same, wr_wr, wr_ne, up_same, up_ne, Nat.reduceAdd, Int.reduceAdd, Int.reduceSub, Int.reduceMul, Int.reduceLT, Int.reduceLE, Int.reduceEq, Int.reduceNeg, Int.reduceToNat, Nat.reduceLT, Nat.reduceLeDiff, Nat.reduceEqDiff, ↓reduceIte, true_and, and_true, not_true_eq_false, not_false_eq_true, eq_self, or_true, true_or, or_false, false_or, if_true, if_false, Int.toNat_natCast, w_ite, Nat.add_zero, reduceCtorEq, ne_eq, hm, x1, x3, wb1, f36, e38]
          generalize wr (wr I2 (m + 6585) (up (I2 (m + 6585)) l1.length (w (t.getD i 0)))) (m + 6587) (up (I2 (m + 6587)) en1.length (w ((l1.length : Int) + 1))) = I3 at u1 u2 u3 ⊢
          have := ih' true (l1 ++ [t.getD i 0]) st1 (en1 ++ [l1.length + 1]) I3 (some (.int (w (t.getD i 0)))) (hF2.trans ⟨fun x h1 h2 => u1 x (by omega) (by omega), fun j hj => by rw [u1 _ (by omega) (by omega)]⟩) ⟨by rw [u1 _ (by omega) (by omega)]; exact f36, by
            rw [u2]
            have := Txt_snoc (x := t.getD i 0) fl
            rw [Nat.zero_add] at this; exact this, by rw [u1 _ (by omega) (by omega)]; exact fs, by
            rw [u3, zl_snoc]
            have := Txt_snoc (x := ((l1.length + 1 : Nat) : Int)) fe
            rw [Nat.zero_add, zl_len] at this; exact this⟩ (by rw [List.length_append, List.length_cons, List.length_nil]; omega) g2 (by rw [List.length_append, List.length_cons, List.length_nil]; omega) (fun h => by cases h) ⟨fun h => absurd h g4, fun h => by simp at h⟩ (fun _ => g4) ⟨fun _ => ⟨by omega, by omega⟩, fun _ => rfl⟩ hr2
          rw [List.length_append, List.length_cons, List.length_nil] at this
          simp only [Int.natCast_add, Int.natCast_one, Nat.zero_add] at this
          exact this
        cases inW with
        | true =>
          rw [if_pos rfl] at hr
          have hne := e6 rfl
          obtain ⟨hi0, h32⟩ := e7.mp rfl
          have hpos : 0 < st.length := List.length_pos_iff.mpr hne
          have ec' := hT1 (i - 1) (by omega)
          rw [Nat.zero_add] at ec'
          have hbi' : 0 ≤ t.getD (i - 1) 0 ∧ t.getD (i - 1) 0 < 256 := by rw [List.getD_eq_getElem?_getD, List.getElem?_eq_getElem (show i - 1 < t.length by omega)]; exact hb _ (List.getElem_mem _)
          have ei1 : ((i : Int) - 1).toNat = i - 1 := by omega
          have hdl : en.dropLast.length = st.length - 1 := by rw [List.length_dropLast]; omega
          have := put l st en.dropLast I1 o hF h36 hTl hTs (fun i hi => by
            rw [zl_len, hdl] at hi
            rw [hTe i (by rw [zl_len]; omega), zl_get, zl_get, getD_dropLast (by omega)]) (by omega) e2 e3 hne hr
          simp (disch := omega) only [q_221_0, q_221_1, q_221_2, q_221_3, q_221_4, q_221_7, q_221_8, q_221_10, q_221_11, q_221_14, q_221_15, q_221_18, q_221_19, q_221_20, q_221_22, q_221_24, q_221_26, q_221_29, q_221_31, q_221_34, q_221_37, q_221_38, q_221_39, q_221_41, q_221_43, q_221_46, q_221_49, q_221_50, q_221_53, q_221_54, q_221_57, q_221_58, q_221_59, q_221_60, q_221_61, q_221_63, q_221_67, q_221_70, q_221_72, q_221_75, q_221_76, q_221_77, q_221_78, q_221_81, q_221_82, q_221_85, q_221_86, q_221_88, q_221_89, q_221_92, q_221_93, q_221_96, q_221_97, q_221_100, q_221_101, q_221_102, q_221_103, q_221_104, q_221_107, q_221_108, q_221_109, q_221_113, q_221_116, q_221_117, q_221_119, q_221_120, q_221_121, q_221_124, q_221_125, q_221_128, q_221_129, q_221_132, q_221_133, q_221_134, q_221_135, q_221_136, q_221_139, q_221_142, q_221_143, q_221_e, va_rf_s, bz_0, bz_1, bz_ok, bb_ok, Nat.add_assoc, w_lt, w_add, w_sub, w_mul, w_div, em_def, w_eq, w_inT, ↓ilt_t, ↓ilt_f, ↓ieq_t, ↓ieq_f, ntT, w_b, w_ix, kx_v, kx_n, kl_n, kl_i, kl_r, kl_o, inA_i, inA_s, inA_b, inA_z, inA_l, inA_0, inA_4, inA_5, inA_6, inA_7, inA_8, inA_9, inA_10, al_0, al_1, al_2, al_4, al_5, al_98, bsP_2, bsP_3, wr_same, wr_wr, wr_ne, up_same, up_ne, Nat.reduceAdd, Int.reduceAdd, Int.reduceSub, Int.reduceMul, Int.reduceLT, Int.reduceLE, Int.reduceEq, Int.reduceNeg, Int.reduceToNat, Nat.reduceLT, Nat.reduceLeDiff, Nat.reduceEqDiff, ↓reduceIte, true_and, and_true, not_true_eq_false, not_false_eq_true, eq_self, or_true, true_or, or_false, false_or, if_true, if_false, Int.toNat_natCast, w_ite, Nat.add_zero, reduceCtorEq, ne_eq, hm, hS2, ec, s163, ei1, ec']
          exact this
        | false =>
          rw [if_neg (by decide)] at hr
          -- a word begins
          have beg : XX (d + 1) 221 66 [some (.ref m), some (.int (w t.length)), some (.int (w l.length)), some (.int (w i)), some (.int (w (t.getD i 0)))] [] (mk S I1 L R G) Q := by
            rw [q_221_66]
            by_cases c40 : 40 ≤ st.length
            · rw [if_pos c40] at hr
              simp (disch := omega) only [q_221_0, q_221_1, q_221_2, q_221_3, q_221_4, q_221_7, q_221_8, q_221_10, q_221_11, q_221_14, q_221_15, q_221_18, q_221_19, q_221_20, q_221_22, q_221_24, q_221_26, q_221_29, q_221_31, q_221_34, q_221_37, q_221_38, q_221_39, q_221_41, q_221_43, q_221_46, q_221_49, q_221_50, q_221_53, q_221_54, q_221_57, q_221_58, q_221_59, q_221_60, q_221_61, q_221_63, q_221_67, q_221_70, q_221_72, q_221_75, q_221_76, q_221_77, q_221_78, q_221_81, q_221_82, q_221_85, q_221_86, q_221_88, q_221_89, q_221_92, q_221_93, q_221_96, q_221_97, q_221_100, q_221_101, q_221_102, q_221_103, q_221_104, q_221_107, q_221_108, q_221_109, q_221_113, q_221_116, q_221_117, q_221_119, q_221_120, q_221_121, q_221_124, q_221_125, q_221_128, q_221_129, q_221_132, q_221_133, q_221_134, q_221_135, q_221_136, q_221_139, q_221_142, q_221_143, q_221_e, va_rf_s, bz_0, bz_1, bz_ok, bb_ok, Nat.add_assoc, w_lt, w_add, w_sub, w_mul, w_div, em_def, w_eq, w_inT, ↓ilt_t, ↓ilt_f, ↓ieq_t, ↓ieq_f, ntT, w_b, w_ix, kx_v, kx_n, kl_n, kl_i, kl_r, kl_o, inA_i, inA_s, inA_b, inA_z, inA_l, inA_0, inA_4, inA_5, inA_6, inA_7, inA_8, inA_9, inA_10, al_0, al_1, al_2, al_4, al_5, al_98, bsP_2, bsP_3, wr_same, wr_wr, wr_ne, up_same, up_ne, Nat.reduceAdd, Int.reduceAdd, Int.reduceSub, Int.reduceMul, Int.reduceLT, Int.reduceLE, Int.reduceEq, Int.reduceNeg, Int.reduceToNat, Nat.reduceLT, Nat.reduceLeDiff, Nat.reduceEqDiff, ↓reduceIte, true_and, and_true, not_true_eq_false, not_false_eq_true, eq_self, or_true, true_or, or_false, false_or, if_true, if_false, Int.toNat_natCast, w_ite, Nat.add_zero, reduceCtorEq, ne_eq, hm, h36]
              exact hQ0 hr.symm I1 hF
            · rw [if_neg c40] at hr
              by_cases cs : st = []
              · have cl0 := e5.mp cs
                rw [if_pos cs] at hr
                subst cs cl0
                have hen : en = [] := List.eq_nil_of_length_eq_zero (by rw [← e1]; rfl)
                subst hen
                have u1 : ∀ x, x ≠ m → x ≠ m + 6586 → wr (wr I1 (m + 6586) (up (I1 (m + 6586)) 0 (w 0))) m (up (I1 m) 36 (w (0 + 1))) x = I1 x := fun x h1 h2 => by rw [wr_ne h1, wr_ne h2]
                have u2 : ∀ j, j ≠ 36 → wr (wr I1 (m + 6586) (up (I1 (m + 6586)) 0 (w 0))) m (up (I1 m) 36 (w (0 + 1))) m j = I1 m j := fun j hj => by rw [wr_same, up_ne hj]
                have u3 : wr (wr I1 (m + 6586) (up (I1 (m + 6586)) 0 (w 0))) m (up (I1 m) 36 (w (0 + 1))) m 36 = w (1 : Nat) := by rw [wr_same, up_same]; rfl
                have u4 : wr (wr I1 (m + 6586) (up (I1 (m + 6586)) 0 (w 0))) m (up (I1 m) 36 (w (0 + 1))) (m + 6586) 0 = w 0 := by rw [wr_ne (by omega), wr_same, up_same]
                simp only [List.length_nil, Int.natCast_zero] at h36 ⊢
                simp (disch := omega) only [q_221_0, q_221_1, q_221_2, q_221_3, q_221_4, q_221_7, q_221_8, q_221_10, q_221_11, q_221_14, q_221_15, q_221_18, q_221_19, q_221_20, q_221_22, q_221_24, q_221_26, q_221_29, q_221_31, q_221_34, q_221_37, q_221_38, q_221_39, q_221_41, q_221_43, q_221_46, q_221_49, q_221_50, q_221_53, q_221_54, q_221_57, q_221_58, q_221_59, q_221_60, q_221_61, q_221_63, q_221_67, q_221_70, q_221_72, q_221_75, q_221_76, q_221_77, q_221_78, q_221_81, q_221_82, q_221_85, q_221_86, q_221_88, q_221_89, q_221_92, q_221_93, q_221_96, q_221_97, q_221_100, q_221_101, q_221_102, q_221_103, q_221_104, q_221_107, q_221_108, q_221_109, q_221_113, q_221_116, q_221_117, q_221_119, q_221_120, q_221_121, q_221_124, q_221_125, q_221_128, q_221_129, q_221_132, q_221_133, q_221_134, q_221_135, q_221_136, q_221_139, q_221_142, q_221_143, q_221_e, va_rf_s, bz_0, bz_1, bz_ok, bb_ok, Nat.add_assoc, w_lt, w_add, w_sub, w_mul, w_div, em_def, w_eq, w_inT, ↓ilt_t, ↓ilt_f, ↓ieq_t, ↓ieq_f, ntT, w_b, w_ix, kx_v, kx_n, kl_n, kl_i, kl_r, kl_o, inA_i, inA_s, inA_b, inA_z, inA_l, inA_0, inA_4, inA_5, inA_6, inA_7, inA_8, inA_9, inA_10, al_0, al_1, al_2, al_4, al_5, al_98, bsP_2, bsP_3, wr_same, wr_wr, wr_ne, up_same, up_ne, Nat.reduceAdd, Int.reduceAdd, Int.reduceSub, Int.reduceMul, Int.reduceLT, Int.reduceLE, Int.reduceEq, Int.reduceNeg, Int.reduceToNat, Nat.reduceLT, Nat.reduceLeDiff, Nat.reduceEqDiff, ↓reduceIte, true_and, and_true, not_true_eq_false, not_false_eq_true, eq_self, or_true, true_or, or_false, false_or, if_true, if_false, Int.toNat_natCast, w_ite, Nat.add_zero, reduceCtorEq, ne_eq, hm, h36, x2, Int.toNat_zero]
                rw [show (0 : Int) + 1 = 1 from rfl] at u1 u2 u3 u4
                generalize wr (wr I1 (m + 6586) (up (I1 (m + 6586)) 0 (w 0))) m (up (I1 m) 36 (w 1)) = I2 at u1 u2 u3 u4 ⊢
                exact put [] [0] [] I2 o (hF.trans ⟨fun x h1 h2 => u1 x h1 (by omega), u2⟩) u3 (fun i hi => nomatch hi) (fun i hi => by
                  have : i = 0 := by simpa [zl] using hi
                  subst this
                  exact u4) (fun i hi => nomatch hi) rfl (by decide) (Nat.zero_le _) (by simp) hr
              · have hlne : l ≠ [] := fun h => cs (e5.mpr h)
                have hlpos : 0 < l.length := List.length_pos_iff.mpr hlne
                have hli := e4 rfl cs
                rw [if_neg cs] at hr
                rw [List.length_append, List.length_cons, List.length_nil, Nat.zero_add] at hr
                have u1 : ∀ x, x ≠ m → x ≠ m + 6585 → x ≠ m + 6586 → wr (wr (wr I1 (m + 6585) (up (I1 (m + 6585)) l.length (w 32))) (m + 6586) (up (I1 (m + 6586)) st.length (w ((l.length : Int) + 1)))) m (up (I1 m) 36 (w ((st.length : Int) + 1))) x = I1 x := fun x h1 h2 h3 => by rw [wr_ne h1, wr_ne h3, wr_ne h2]
                have u2 : ∀ j, j ≠ 36 → wr (wr (wr I1 (m + 6585) (up (I1 (m + 6585)) l.length (w 32))) (m + 6586) (up (I1 (m + 6586)) st.length (w ((l.length : Int) + 1)))) m (up (I1 m) 36 (w ((st.length : Int) + 1))) m j = I1 m j := fun j hj => by rw [wr_same, up_ne hj]
                have u3 : wr (wr (wr I1 (m + 6585) (up (I1 (m + 6585)) l.length (w 32))) (m + 6586) (up (I1 (m + 6586)) st.length (w ((l.length : Int) + 1)))) m (up (I1 m) 36 (w ((st.length : Int) + 1))) m 36 = w (st.length + 1 : Nat) := by rw [wr_same, up_same]; rfl
                have u4 : wr (wr (wr I1 (m + 6585) (up (I1 (m + 6585)) l.length (w 32))) (m + 6586) (up (I1 (m + 6586)) st.length (w ((l.length : Int) + 1)))) m (up (I1 m) 36 (w ((st.length : Int) + 1))) (m + 6586) = up (I1 (m + 6586)) st.length (w (l.length + 1 : Nat)) := by rw [wr_ne (by omega), wr_same]; rfl
                have u5 : wr (wr (wr I1 (m + 6585) (up (I1 (m + 6585)) l.length (w 32))) (m + 6586) (up (I1 (m + 6586)) st.length (w ((l.length : Int) + 1)))) m (up (I1 m) 36 (w ((st.length : Int) + 1))) (m + 6585) = up (I1 (m + 6585)) l.length (w 32) := by rw [wr_ne (by omega), wr_ne (by omega), wr_same]
                simp (disch := omega) only [q_221_0, q_221_1, q_221_2, q_221_3, q_221_4, q_221_7, q_221_8, q_221_10, q_221_11, q_221_14, q_221_15, q_221_18, q_221_19, q_221_20, q_221_22, q_221_24, q_221_26, q_221_29, q_221_31, q_221_34, q_221_37, q_221_38, q_221_39, q_221_41, q_221_43, q_221_46, q_221_49, q_221_50, q_221_53, q_221_54, q_221_57, q_221_58, q_221_59, q_221_60, q_221_61, q_221_63, q_221_67, q_221_70, q_221_72, q_221_75, q_221_76, q_221_77, q_221_78, q_221_81, q_221_82, q_221_85, q_221_86, q_221_88, q_221_89, q_221_92, q_221_93, q_221_96, q_221_97, q_221_100, q_221_101, q_221_102, q_221_103, q_221_104, q_221_107, q_221_108, q_221_109, q_221_113, q_221_116, q_221_117, q_221_119, q_221_120, q_221_121, q_221_124, q_221_125, q_221_128, q_221_129, q_221_132, q_221_133, q_221_134, q_221_135, q_221_136, q_221_139, q_221_142, q_221_143, q_221_e, va_rf_s, bz_0, bz_1, bz_ok, bb_ok, Nat.add_assoc, w_lt, w_add, w_sub, w_mul, w_div, em_def, w_eq, w_inT, ↓ilt_t, ↓ilt_f, ↓ieq_t, ↓ieq_f, ntT, w_b, w_ix, kx_v, kx_n, kl_n, kl_i, kl_r, kl_o, inA_i, inA_s, inA_b, inA_z, inA_l, inA_0, inA_4, inA_5, inA_6, inA_7, inA_8, inA_9, inA_10, al_0, al_1, al_2, al_4, al_5, al_98, bsP_2, bsP_3, wr_same, wr_wr, wr_ne, up_same, up_ne, Nat.reduceAdd, Int.reduceAdd, Int.reduceSub, Int.reduceMul, Int.reduceLT, Int.reduceLE, Int.reduceEq, Int.reduceNeg, Int.reduceToNat, Nat.reduceLT, Nat.reduceLeDiff, Nat.reduceEqDiff, ↓reduceIte, true_and, and_true, not_true_eq_false, not_false_eq_true, eq_self, or_true, true_or, or_false, false_or, if_true, if_false, Int.toNat_natCast, w_ite, Nat.add_zero, reduceCtorEq, ne_eq, hm, h36, x1, x2]
                generalize wr (wr (wr I1 (m + 6585) (up (I1 (m + 6585)) l.length (w 32))) (m + 6586) (up (I1 (m + 6586)) st.length (w ((l.length : Int) + 1)))) m (up (I1 m) 36 (w ((st.length : Int) + 1))) = I2 at u1 u2 u3 u4 u5 ⊢
                have := put (l ++ [32]) (st ++ [l.length + 1]) en I2 o (hF.trans ⟨fun x h1 h2 => u1 x h1 (by omega) (by omega), u2⟩) (by rw [List.length_append]; exact u3) (by
                  rw [u5]
                  have := Txt_snoc (x := 32) hTl
                  rw [Nat.zero_add] at this; exact this) (by
                  rw [u4, zl_snoc]
                  have := Txt_snoc (x := ((l.length + 1 : Nat) : Int)) hTs
                  rw [Nat.zero_add, zl_len] at this; exact this) (by rw [u1 _ (by omega) (by omega) (by omega)]; exact hTe) (by rw [List.length_append, List.length_cons, List.length_nil]; omega) (by rw [List.length_append, List.length_cons, List.length_nil]; omega) (by rw [List.length_append, List.length_cons, List.length_nil]; omega) (by simp) (by rw [List.length_append, List.length_cons, List.length_nil, Nat.zero_add]; exact hr)
                rw [List.length_append, List.length_cons, List.length_nil] at this
                simp only [Int.natCast_add, Int.natCast_one, Nat.zero_add] at this
                exact this
          by_cases ci : i = 0
          · subst ci
            simp only [Int.natCast_zero] at beg ec ⊢
            simp (disch := omega) only [q_221_0, q_221_1, q_221_2, q_221_3, q_221_4, q_221_7, q_221_8, q_221_10, q_221_11, q_221_14, q_221_15, q_221_18, q_221_19, q_221_20, q_221_22, q_221_24, q_221_26, q_221_29, q_221_31, q_221_34, q_221_37, q_221_38, q_221_39, q_221_41, q_221_43, q_221_46, q_221_49, q_221_50, q_221_53, q_221_54, q_221_57, q_221_58, q_221_59, q_221_60, q_221_61, q_221_63, q_221_67, q_221_70, q_221_72, q_221_75, q_221_76, q_221_77, q_221_78, q_221_81, q_221_82, q_221_85, q_221_86, q_221_88, q_221_89, q_221_92, q_221_93, q_221_96, q_221_97, q_221_100, q_221_101, q_221_102, q_221_103, q_221_104, q_221_107, q_221_108, q_221_109, q_221_113, q_221_116, q_221_117, q_221_119, q_221_120, q_221_121, q_221_124, q_221_125, q_221_128, q_221_129, q_221_132, q_221_133, q_221_134, q_221_135, q_221_136, q_221_139, q_221_142, q_221_143, q_221_e, va_rf_s, bz_0, bz_1, bz_ok, bb_ok, Nat.add_assoc, w_lt, w_add, w_sub, w_mul, w_div, em_def, w_eq, w_inT, ↓ilt_t, ↓ilt_f, ↓ieq_t, ↓ieq_f, ntT, w_b, w_ix, kx_v, kx_n, kl_n, kl_i, kl_r, kl_o, inA_i, inA_s, inA_b, inA_z, inA_l, inA_0, inA_4, inA_5, inA_6, inA_7, inA_8, inA_9, inA_10, al_0, al_1, al_2, al_4, al_5, al_98, bsP_2, bsP_3, wr_same, wr_wr, wr_ne, up_same, up_ne, Nat.reduceAdd, Int.reduceAdd, Int.reduceSub, Int.reduceMul, Int.reduceLT, Int.reduceLE, Int.reduceEq, Int.reduceNeg, Int.reduceToNat, Nat.reduceLT, Nat.reduceLeDiff, Nat.reduceEqDiff, ↓reduceIte, true_and, and_true, not_true_eq_false, not_false_eq_true, eq_self, or_true, true_or, or_false, false_or, if_true, if_false, Int.toNat_natCast, w_ite, Nat.add_zero, reduceCtorEq, ne_eq, hm, hS2, ec, s163]
            exact beg
          · have h32 : t.getD (i - 1) 0 = 32 := Classical.byContradiction fun h => by
              have := e7.mpr ⟨by omega, h⟩
              cases this
            have ec' := hT1 (i - 1) (by omega)
            rw [Nat.zero_add, h32] at ec'
            have ei1 : ((i : Int) - 1).toNat = i - 1 := by omega
            simp (disch := omega) only [q_221_0, q_221_1, q_221_2, q_221_3, q_221_4, q_221_7, q_221_8, q_221_10, q_221_11, q_221_14, q_221_15, q_221_18, q_221_19, q_221_20, q_221_22, q_221_24, q_221_26, q_221_29, q_221_31, q_221_34, q_221_37, q_221_38, q_221_39, q_221_41, q_221_43, q_221_46, q_221_49, q_221_50, q_221_53, q_221_54, q_221_57, q_221_58, q_221_59, q_221_60, q_221_61, q_221_63, q_221_67, q_221_70, q_221_72, q_221_75, q_221_76, q_221_77, q_221_78, q_221_81, q_221_82, q_221_85, q_221_86, q_221_88, q_221_89, q_221_92, q_221_93, q_221_96, q_221_97, q_221_100, q_221_101, q_221_102, q_221_103, q_221_104, q_221_107, q_221_108, q_221_109, q_221_113, q_221_116, q_221_117, q_221_119, q_221_120, q_221_121, q_221_124, q_221_125, q_221_128, q_221_129, q_221_132, q_221_133, q_221_134, q_221_135, q_221_136, q_221_139, q_221_142, q_221_143, q_221_e, va_rf_s, bz_0, bz_1, bz_ok, bb_ok, Nat.add_assoc, w_lt, w_add, w_sub, w_mul, w_div, em_def, w_eq, w_inT, ↓ilt_t, ↓ilt_f, ↓ieq_t, ↓ieq_f, ntT, w_b, w_ix, kx_v, kx_n, kl_n, kl_i, kl_r, kl_o, inA_i, inA_s, inA_b, inA_z, inA_l, inA_0, inA_4, inA_5, inA_6, inA_7, inA_8, inA_9, inA_10, al_0, al_1, al_2, al_4, al_5, al_98, bsP_2, bsP_3, wr_same, wr_wr, wr_ne, up_same, up_ne, Nat.reduceAdd, Int.reduceAdd, Int.reduceSub, Int.reduceMul, Int.reduceLT, Int.reduceLE, Int.reduceEq, Int.reduceNeg, Int.reduceToNat, Nat.reduceLT, Nat.reduceLeDiff, Nat.reduceEqDiff, ↓reduceIte, true_and, and_true, not_true_eq_false, not_false_eq_true, eq_self, or_true, true_or, or_false, false_or, if_true, if_false, Int.toNat_natCast, w_ite, Nat.add_zero, reduceCtorEq, ne_eq, hm, hS2, ec, s163, ei1, ec']
            exact beg
      · have cLf : isl (t.getD i 0) = false := by simpa using cL
        rw [if_neg cL] at hr
        rw [cLf] at s163
        by_cases c32 : t.getD i 0 = 32
        · rw [if_pos c32] at hr
          have := ih' false l st en I1 (some (.int (w (t.getD i 0)))) hF ⟨h36, hTl, hTs, hTe⟩ e1 e2 (by omega) (fun _ _ => by omega) e5 (fun h => by cases h) ⟨(fun h => by cases h), fun h => absurd c32 h.2⟩ hr
          simp only [Int.natCast_add, Int.natCast_one] at this
          simp (disch := omega) only [q_221_0, q_221_1, q_221_2, q_221_3, q_221_4, q_221_7, q_221_8, q_221_10, q_221_11, q_221_14, q_221_15, q_221_18, q_221_19, q_221_20, q_221_22, q_221_24, q_221_26, q_221_29, q_221_31, q_221_34, q_221_37, q_221_38, q_221_39, q_221_41, q_221_43, q_221_46, q_221_49, q_221_50, q_221_53, q_221_54, q_221_57, q_221_58, q_221_59, q_221_60, q_221_61, q_221_63, q_221_67, q_221_70, q_221_72, q_221_75, q_221_76, q_221_77, q_221_78, q_221_81, q_221_82, q_221_85, q_221_86, q_221_88, q_221_89, q_221_92, q_221_93, q_221_96, q_221_97, q_221_100, q_221_101, q_221_102, q_221_103, q_221_104, q_221_107, q_221_108, q_221_109, q_221_113, q_221_116, q_221_117, q_221_119, q_221_120, q_221_121, q_221_124, q_221_125, q_221_128, q_221_129, q_221_132, q_221_133, q_221_134, q_221_135, q_221_136, q_221_139, q_221_142, q_221_143, q_221_e, va_rf_s, bz_0, bz_1, bz_ok, bb_ok, Nat.add_assoc, w_lt, w_add, w_sub, w_mul, w_div, em_def, w_eq, w_inT, ↓ilt_t, ↓ilt_f, ↓ieq_t, ↓ieq_f, ntT, w_b, w_ix, kx_v, kx_n, kl_n, kl_i, kl_r, kl_o, inA_i, inA_s, inA_b, inA_z, inA_l, inA_0, inA_4, inA_5, inA_6, inA_7, inA_8, inA_9, inA_10, al_0, al_1, al_2, al_4, al_5, al_98, bsP_2, bsP_3, wr_same, wr_wr, wr_ne, up_same, up_ne, Nat.reduceAdd, Int.reduceAdd, Int.reduceSub, Int.reduceMul, Int.reduceLT, Int.reduceLE, Int.reduceEq, Int.reduceNeg, Int.reduceToNat, Nat.reduceLT, Nat.reduceLeDiff, Nat.reduceEqDiff, ↓reduceIte, true_and, and_true, not_true_eq_false, not_false_eq_true, eq_self, or_true, true_or, or_false, false_or, if_true, if_false, Int.toNat_natCast, w_ite, Nat.add_zero, reduceCtorEq, ne_eq, hm, hS2, ec]
          exact this
        · rw [if_neg c32] at hr
          simp (disch := omega) only [q_221_0, q_221_1, q_221_2, q_221_3, q_221_4, q_221_7, q_221_8, q_221_10, q_221_11, q_221_14, q_221_15, q_221_18, q_221_19, q_221_20, q_221_22, q_221_24, q_221_26, q_221_29, q_221_31, q_221_34, q_221_37, q_221_38, q_221_39, q_221_41, q_221_43, q_221_46, q_221_49, q_221_50, q_221_53, q_221_54, q_221_57, q_221_58, q_221_59, q_221_60, q_221_61, q_221_63, q_221_67, q_221_70, q_221_72, q_221_75, q_221_76, q_221_77, q_221_78, q_221_81, q_221_82, q_221_85, q_221_86, q_221_88, q_221_89, q_221_92, q_221_93, q_221_96, q_221_97, q_221_100, q_221_101, q_221_102, q_221_103, q_221_104, q_221_107, q_221_108, q_221_109, q_221_113, q_221_116, q_221_117, q_221_119, q_221_120, q_221_121, q_221_124, q_221_125, q_221_128, q_221_129, q_221_132, q_221_133, q_221_134, q_221_135, q_221_136, q_221_139, q_221_142, q_221_143, q_221_e, va_rf_s, bz_0, bz_1, bz_ok, bb_ok, Nat.add_assoc, w_lt, w_add, w_sub, w_mul, w_div, em_def, w_eq, w_inT, ↓ilt_t, ↓ilt_f, ↓ieq_t, ↓ieq_f, ntT, w_b, w_ix, kx_v, kx_n, kl_n, kl_i, kl_r, kl_o, inA_i, inA_s, inA_b, inA_z, inA_l, inA_0, inA_4, inA_5, inA_6, inA_7, inA_8, inA_9, inA_10, al_0, al_1, al_2, al_4, al_5, al_98, bsP_2, bsP_3, wr_same, wr_wr, wr_ne, up_same, up_ne, Nat.reduceAdd, Int.reduceAdd, Int.reduceSub, Int.reduceMul, Int.reduceLT, Int.reduceLE, Int.reduceEq, Int.reduceNeg, Int.reduceToNat, Nat.reduceLT, Nat.reduceLeDiff, Nat.reduceEqDiff, ↓reduceIte, true_and, and_true, not_true_eq_false, not_false_eq_true, eq_self, or_true, true_or, or_false, false_or, if_true, if_false, Int.toNat_natCast, w_ite, Nat.add_zero, reduceCtorEq, ne_eq, hm, hS2, ec, s163]
          exact hQ0 hr.symm I1 hF
  simp (disch := omega) only [q_221_0, q_221_1, q_221_2, q_221_3, q_221_4, q_221_7, q_221_8, q_221_10, q_221_11, q_221_14, q_221_15, q_221_18, q_221_19, q_221_20, q_221_22, q_221_24, q_221_26, q_221_29, q_221_31, q_221_34, q_221_37, q_221_38, q_221_39, q_221_41, q_221_43, q_221_46, q_221_49, q_221_50, q_221_53, q_221_54, q_221_57, q_221_58, q_221_59, q_221_60, q_221_61, q_221_63, q_221_67, q_221_70, q_221_72, q_221_75, q_221_76, q_221_77, q_221_78, q_221_81, q_221_82, q_221_85, q_221_86, q_221_88, q_221_89, q_221_92, q_221_93, q_221_96, q_221_97, q_221_100, q_221_101, q_221_102, q_221_103, q_221_104, q_221_107, q_221_108, q_221_109, q_221_113, q_221_116, q_221_117, q_221_119, q_221_120, q_221_121, q_221_124, q_221_125, q_221_128, q_221_129, q_221_132, q_221_133, q_221_134, q_221_135, q_221_136, q_221_139, q_221_142, q_221_143, q_221_e, va_rf_s, bz_0, bz_1, bz_ok, bb_ok, Nat.add_assoc, w_lt, w_add, w_sub, w_mul, w_div, em_def, w_eq, w_inT, ↓ilt_t, ↓ilt_f, ↓ieq_t, ↓ieq_f, ntT, w_b, w_ix, kx_v, kx_n, kl_n, kl_i, kl_r, kl_o, inA_i, inA_s, inA_b, inA_z, inA_l, inA_0, inA_4, inA_5, inA_6, inA_7, inA_8, inA_9, inA_10, al_0, al_1, al_2, al_4, al_5, al_98, bsP_2, bsP_3, wr_same, wr_wr, wr_ne, up_same, up_ne, Nat.reduceAdd, Int.reduceAdd, Int.reduceSub, Int.reduceMul, Int.reduceLT, Int.reduceLE, Int.reduceEq, Int.reduceNeg, Int.reduceToNat, Nat.reduceLT, Nat.reduceLeDiff, Nat.reduceEqDiff, ↓reduceIte, true_and, and_true, not_true_eq_false, not_false_eq_true, eq_self, or_true, true_or, or_false, false_or, if_true, if_false, Int.toNat_natCast, w_ite, Nat.add_zero, reduceCtorEq, ne_eq, hm]
  exact lp t.length 0 false [] [] [] _ none (by omega) ⟨fun x h1 h2 => wr_ne h1, fun j hj => by rw [wr_same, up_ne hj]⟩ ⟨by rw [wr_same, up_same]; rfl, (fun i hi => nomatch hi), (fun i hi => nomatch hi), (fun i hi => nomatch hi)⟩ rfl (by decide) (Nat.zero_le _) (fun _ h => absurd rfl h) ⟨fun _ => rfl, fun _ => rfl⟩ (fun h => by cases h) ⟨(fun h => by cases h), fun h => absurd h.1 (by decide)⟩ (by rw [List.drop_zero]; exact hres)
theorem MS.hear (h : MS S I R G m s) {n : Int} (hn : B32 n)
    (hQ0 : hrb s n = none → ∀ I' : MI, HwF I I' m → MS S I' R G m s → Q (.inl (some (.int (w 0)))) (mk S I' L R G))
    (hQ1 : ∀ y, hrb s n = some y → ∀ I' : MI, HwF I I' m → MS S I' R G m s → HwM I' m y.1 y.2.1 y.2.2 → Q (.inl (some (.int (w 1)))) (mk S I' L R G)) :
    XC (d + 2) 222 [.ref m, .int (w n)] (mk S I L R G) Q := by
  have hm := h.1.1
  obtain ⟨t2, t400, tT, tb⟩ := h.2.2.2.1
  unfold hrb at hQ0 hQ1
  by_cases cn : 1 ≤ n ∧ n ≤ s.1.length
  · have s155 := fun {d : Nat} {Q : XO → Hp → Prop} {A : Hp} => l155 (d := d) (Q := Q) (A := A) hn (a := 1) (b := (s.1.length : Int)) (by decide) (by constructor <;> omega) cn
    rw [if_pos cn] at hQ0 hQ1
    have hlen : (s.1.take n.toNat).length = n.toNat := by rw [List.length_take]; omega
    have s221 := fun {d : Nat} {Q : XO → Hp → Prop} => sp_221 (d := d) (Q := Q) (I := I) (L := L) (G := G) (t := s.1.take n.toNat) h.1 (by omega) (by
      intro i hi
      rw [hlen] at hi
      rw [tT i (by omega)]
      simp only [List.getD_eq_getElem?_getD, List.getElem?_take]
      rw [if_pos hi]) (fun b hb => tb b (List.mem_of_mem_take hb))
    rw [hlen, show ((n.toNat : Nat) : Int) = n by omega] at s221
    simp (disch := omega) only [q_222_0, q_222_1, q_222_2, q_222_3, q_222_6, q_222_9, q_222_12, q_222_13, q_222_14, q_222_17, q_222_20, q_222_21, q_222_24, q_222_25, q_222_e, va_rf_s, bz_0, bz_1, bz_ok, bb_ok, Nat.add_assoc, w_lt, w_add, w_sub, w_mul, w_div, em_def, w_eq, w_inT, ↓ilt_t, ↓ilt_f, ↓ieq_t, ↓ieq_f, ntT, w_b, w_ix, kx_v, kx_n, kl_n, kl_i, kl_r, kl_o, inA_i, inA_s, inA_b, inA_z, inA_l, inA_0, inA_4, inA_5, inA_6, inA_7, inA_8, inA_9, inA_10, al_0, al_1, al_2, al_4, al_5, al_98, bsP_2, bsP_3, wr_same, wr_wr, wr_ne, up_same, up_ne, Nat.reduceAdd, Int.reduceAdd, Int.reduceSub, Int.reduceMul, Int.reduceLT, Int.reduceLE, Int.reduceEq, Int.reduceNeg, Int.reduceToNat, Nat.reduceLT, Nat.reduceLeDiff, Nat.reduceEqDiff, ↓reduceIte, true_and, and_true, not_true_eq_false, not_false_eq_true, eq_self, or_true, true_or, or_false, false_or, if_true, if_false, Int.toNat_natCast, w_ite, Nat.add_zero, reduceCtorEq, ne_eq, hm, t2, s155]
    refine s221 (fun e I' hF => ?_) (fun l st en e I' hF hW => ?_)
    · simp (disch := omega) only [q_222_0, q_222_1, q_222_2, q_222_3, q_222_6, q_222_9, q_222_12, q_222_13, q_222_14, q_222_17, q_222_20, q_222_21, q_222_24, q_222_25, q_222_e, va_rf_s, bz_0, bz_1, bz_ok, bb_ok, Nat.add_assoc, w_lt, w_add, w_sub, w_mul, w_div, em_def, w_eq, w_inT, ↓ilt_t, ↓ilt_f, ↓ieq_t, ↓ieq_f, ntT, w_b, w_ix, kx_v, kx_n, kl_n, kl_i, kl_r, kl_o, inA_i, inA_s, inA_b, inA_z, inA_l, inA_0, inA_4, inA_5, inA_6, inA_7, inA_8, inA_9, inA_10, al_0, al_1, al_2, al_4, al_5, al_98, bsP_2, bsP_3, wr_same, wr_wr, wr_ne, up_same, up_ne, Nat.reduceAdd, Int.reduceAdd, Int.reduceSub, Int.reduceMul, Int.reduceLT, Int.reduceLE, Int.reduceEq, Int.reduceNeg, Int.reduceToNat, Nat.reduceLT, Nat.reduceLeDiff, Nat.reduceEqDiff, ↓reduceIte, true_and, and_true, not_true_eq_false, not_false_eq_true, eq_self, or_true, true_or, or_false, false_or, if_true, if_false, Int.toNat_natCast, w_ite, Nat.add_zero, reduceCtorEq, ne_eq]
      exact hQ0 e I' hF (h.hw hF)
    · simp (disch := omega) only [q_222_0, q_222_1, q_222_2, q_222_3, q_222_6, q_222_9, q_222_12, q_222_13, q_222_14, q_222_17, q_222_20, q_222_21, q_222_24, q_222_25, q_222_e, va_rf_s, bz_0, bz_1, bz_ok, bb_ok, Nat.add_assoc, w_lt, w_add, w_sub, w_mul, w_div, em_def, w_eq, w_inT, ↓ilt_t, ↓ilt_f, ↓ieq_t, ↓ieq_f, ntT, w_b, w_ix, kx_v, kx_n, kl_n, kl_i, kl_r, kl_o, inA_i, inA_s, inA_b, inA_z, inA_l, inA_0, inA_4, inA_5, inA_6, inA_7, inA_8, inA_9, inA_10, al_0, al_1, al_2, al_4, al_5, al_98, bsP_2, bsP_3, wr_same, wr_wr, wr_ne, up_same, up_ne, Nat.reduceAdd, Int.reduceAdd, Int.reduceSub, Int.reduceMul, Int.reduceLT, Int.reduceLE, Int.reduceEq, Int.reduceNeg, Int.reduceToNat, Nat.reduceLT, Nat.reduceLeDiff, Nat.reduceEqDiff, ↓reduceIte, true_and, and_true, not_true_eq_false, not_false_eq_true, eq_self, or_true, true_or, or_false, false_or, if_true, if_false, Int.toNat_natCast, w_ite, Nat.add_zero, reduceCtorEq, ne_eq]
      exact hQ1 (l, st, en) e I' hF (h.hw hF) hW
  · have s155 := fun {d : Nat} {Q : XO → Hp → Prop} {A : Hp} => n155 (d := d) (Q := Q) (A := A) hn (a := 1) (b := (s.1.length : Int)) (by decide) (by constructor <;> omega) cn
    rw [if_neg cn] at hQ0
    simp (disch := omega) only [q_222_0, q_222_1, q_222_2, q_222_3, q_222_6, q_222_9, q_222_12, q_222_13, q_222_14, q_222_17, q_222_20, q_222_21, q_222_24, q_222_25, q_222_e, va_rf_s, bz_0, bz_1, bz_ok, bb_ok, Nat.add_assoc, w_lt, w_add, w_sub, w_mul, w_div, em_def, w_eq, w_inT, ↓ilt_t, ↓ilt_f, ↓ieq_t, ↓ieq_f, ntT, w_b, w_ix, kx_v, kx_n, kl_n, kl_i, kl_r, kl_o, inA_i, inA_s, inA_b, inA_z, inA_l, inA_0, inA_4, inA_5, inA_6, inA_7, inA_8, inA_9, inA_10, al_0, al_1, al_2, al_4, al_5, al_98, bsP_2, bsP_3, wr_same, wr_wr, wr_ne, up_same, up_ne, Nat.reduceAdd, Int.reduceAdd, Int.reduceSub, Int.reduceMul, Int.reduceLT, Int.reduceLE, Int.reduceEq, Int.reduceNeg, Int.reduceToNat, Nat.reduceLT, Nat.reduceLeDiff, Nat.reduceEqDiff, ↓reduceIte, true_and, and_true, not_true_eq_false, not_false_eq_true, eq_self, or_true, true_or, or_false, false_or, if_true, if_false, Int.toNat_natCast, w_ite, Nat.add_zero, reduceCtorEq, ne_eq, hm, t2, s155]
    exact hQ0 rfl I ⟨fun _ _ _ => rfl, fun _ _ => rfl⟩ h
end

/-! print; two that are laid, side by side; what is laid aside -/
/-- what is laid aside -/
def AdN (I : MI) (m : Nat) (rs : List Rl) (n : Nat) : Prop := I (m + 6581) n = w (bgn rs n) ∧ (T rs n = none → I (m + 6582) n = w (-1)) ∧ ∀ t, T rs n = some t → I (m + 6582) n = w t.length ∧ Txt (I (m + 6580)) (bgn rs n) t
def AdA (I : MI) (m : Nat) (rs : List Rl) (h : Nat) : Prop := ∀ n, n ≤ h → AdN I m rs n
def AsF (I I' : MI) (m : Nat) : Prop := (∀ x, x ≠ m → (x < m + 6541 ∨ m + 6583 ≤ x) → I' x = I x) ∧ (∀ j, (j < 16 ∨ 22 < j) → I' m j = I m j)
theorem lexc_small {s t : List Int} (hs : bOk s) (ht : bOk t) : lexc s t = 0 ↔ s = t := lexc_eq (fun b hb => by rcases hs b hb with h | h <;> omega) (fun b hb => by rcases ht b hb with h | h <;> omega)
section
variable {d : Nat} {Q : XO → Hp → Prop} {S : SH} {I : MI} {L : ML} {R : MR} {G : MG} {A : Hp}
variable {m : Nat} {s : St} {two : Bool}
theorem AdA.len {rs : List Rl} {h n : Nat} (hA : AdA I m rs h) (hn : n ≤ h) : I (m + 6582) n = w (match T rs n with | none => -1 | some t => (t.length : Int)) := by
  obtain ⟨-, a2, a3⟩ := hA n hn
  cases hT : T rs (n : Int) with
  | none => exact a2 hT
  | some t => exact (a3 t hT).1
theorem LdA.keep {I' : MI} {rs : List Rl} {h : Nat} (hA : LdA I m rs h) (e1 : I' (m + 6577) = I (m + 6577)) (e2 : I' (m + 6578) = I (m + 6578)) (e3 : I' (m + 6579) = I (m + 6579)) : LdA I' m rs h := fun n hn => (hA n hn).keep (fun j _ => by rw [e1]) (by rw [e2]) (by rw [e3])
theorem AdA.keep {I' : MI} {rs : List Rl} {h : Nat} (hA : AdA I m rs h) (e1 : I' (m + 6580) = I (m + 6580)) (e2 : I' (m + 6581) = I (m + 6581)) (e3 : I' (m + 6582) = I (m + 6582)) : AdA I' m rs h := fun n hn => by
  have := hA n hn
  unfold AdN at this ⊢
  rw [e1, e2, e3]; exact this
theorem sp_238 {l : Int} (h : MS S I R G m s) (hf : few s) (hl : B32 l)
    (hQ1 : inL l → ∀ (I' : MI) (L' : ML), MS S I' R G m s → MFr I L I' L' m → I' m 0 = w 0 → Q (.inl (some (.long (prF (fun n => T (rlz s l) n) (s.2.1.1 + 1))))) (mk S I' L' R G))
    (hQ0 : ¬ inL l → ∀ (I' : MI) (L' : ML), MS S I' R G m (miss s) → MFr I L I' L' m → I' m 0 = w 1 → Q (.inl (some (.long (wl 0)))) (mk S I' L' R G)) : XC (d + 70) 238 [.ref m, .int (w l)] (mk S I L R G) Q := by
  have hm := h.1.1
  obtain ⟨I1, e, h1, h0, hF⟩ := h.st (L := L)
  have b00 := fun {d : Nat} {Q : XO → Hp → Prop} {e r : Int32} => h1.b00 (d := d) (Q := Q) (L := L) h0 (e := e) (r := r)
  have b10 := fun {d : Nat} {Q : XO → Hp → Prop} => h1.b10 (d := d) (Q := Q) (L := L) h0 (e := 1) (Or.inl rfl)
  simp (disch := omega) only [q_238_0, q_238_1, q_238_2, q_238_6, q_238_7, q_238_10, q_238_13, q_238_14, q_238_17, q_238_18, q_238_19, q_238_20, q_238_23, q_238_26, q_238_27, q_238_28, q_238_29, q_238_30, q_238_33, q_238_34, q_238_35, q_238_36, q_238_40, q_238_41, q_238_44, q_238_47, q_238_48, q_238_51, q_238_53, q_238_54, q_238_55, q_238_58, q_238_59, q_238_62, q_238_63, q_238_65, q_238_66, q_238_70, q_238_71, q_238_74, q_238_76, q_238_77, q_238_80, q_238_82, q_238_83, q_238_86, q_238_87, q_238_90, q_238_92, q_238_93, q_238_95, q_238_96, q_238_97, q_238_98, q_238_100, q_238_103, q_238_106, q_238_109, q_238_110, q_238_111, q_238_113, q_238_114, q_238_115, q_238_116, q_238_119, q_238_122, q_238_123, q_238_e, va_rf_s, bz_0, bz_1, bz_ok, bb_ok, Nat.add_assoc, w_lt, w_add, w_sub, w_mul, w_div, em_def, w_eq, w_inT, ↓ilt_t, ↓ilt_f, ↓ieq_t, ↓ieq_f, ntT, w_b, w_ix, kx_v, kx_n, kl_n, kl_i, kl_r, kl_o, inA_i, inA_s, inA_b, inA_z, inA_l, inA_0, inA_4, inA_5, inA_6, inA_7, inA_8, inA_9, inA_10, al_0, al_1, al_2, al_4, al_5, al_98, bsP_2, bsP_3, wr_same, wr_wr, wr_ne, up_same, up_ne, Nat.reduceAdd, Int.reduceAdd, Int.reduceSub, Int.reduceMul, Int.reduceLT, Int.reduceLE, Int.reduceEq, Int.reduceNeg, Int.reduceToNat, Nat.reduceLT, Nat.reduceLeDiff, Nat.reduceEqDiff, ↓reduceIte, true_and, and_true, not_true_eq_false, not_false_eq_true, eq_self, or_true, true_or, or_false, false_or, if_true, if_false, Int.toNat_natCast, w_ite, Nat.add_zero, reduceCtorEq, ne_eq, hm]
  rw [e, q_238_5]
  by_cases cl : inL l
  · have s182 := fun {d : Nat} {Q : XO → Hp → Prop} {A : Hp} => l182 (d := d) (Q := Q) (A := A) hl cl
    simp (disch := omega) only [q_238_0, q_238_1, q_238_2, q_238_6, q_238_7, q_238_10, q_238_13, q_238_14, q_238_17, q_238_18, q_238_19, q_238_20, q_238_23, q_238_26, q_238_27, q_238_28, q_238_29, q_238_30, q_238_33, q_238_34, q_238_35, q_238_36, q_238_40, q_238_41, q_238_44, q_238_47, q_238_48, q_238_51, q_238_53, q_238_54, q_238_55, q_238_58, q_238_59, q_238_62, q_238_63, q_238_65, q_238_66, q_238_70, q_238_71, q_238_74, q_238_76, q_238_77, q_238_80, q_238_82, q_238_83, q_238_86, q_238_87, q_238_90, q_238_92, q_238_93, q_238_95, q_238_96, q_238_97, q_238_98, q_238_100, q_238_103, q_238_106, q_238_109, q_238_110, q_238_111, q_238_113, q_238_114, q_238_115, q_238_116, q_238_119, q_238_122, q_238_123, q_238_e, va_rf_s, bz_0, bz_1, bz_ok, bb_ok, Nat.add_assoc, w_lt, w_add, w_sub, w_mul, w_div, em_def, w_eq, w_inT, ↓ilt_t, ↓ilt_f, ↓ieq_t, ↓ieq_f, ntT, w_b, w_ix, kx_v, kx_n, kl_n, kl_i, kl_r, kl_o, inA_i, inA_s, inA_b, inA_z, inA_l, inA_0, inA_4, inA_5, inA_6, inA_7, inA_8, inA_9, inA_10, al_0, al_1, al_2, al_4, al_5, al_98, bsP_2, bsP_3, wr_same, wr_wr, wr_ne, up_same, up_ne, Nat.reduceAdd, Int.reduceAdd, Int.reduceSub, Int.reduceMul, Int.reduceLT, Int.reduceLE, Int.reduceEq, Int.reduceNeg, Int.reduceToNat, Nat.reduceLT, Nat.reduceLeDiff, Nat.reduceEqDiff, ↓reduceIte, true_and, and_true, not_true_eq_false, not_false_eq_true, eq_self, or_true, true_or, or_false, false_or, if_true, if_false, Int.toNat_natCast, w_ite, Nat.add_zero, reduceCtorEq, ne_eq, hm, s182, b00]
    refine h1.lays cl (fun I2 hF2 h2 hM2 e22 hA => ?_)
    have hQ' := hQ1 cl I2 L h2 (hF.trans hM2) (by rw [hF2.2 0 (by omega)]; exact h0)
    obtain ⟨e13, p1, p2⟩ := h2.2.2.2.2.2.1
    have hok := (h1.rs cl).ok
    obtain ⟨k1, k2, k3, -⟩ := h.1.2.2.2.2.2.2.2.2.1
    have lp : ∀ (j n : Nat) (o5 o6 : Option Value), n + j = s.2.1.1 + 1 → XX (d + 70) 238 38 [some (.ref m), some (.int (w l)), some (.long (prF (fun n => T (rlz s l) n) n)), none, some (.int (w n)), o5, o6] [] (mk S I2 L R G) Q := by
      intro j
      induction j with
      | zero =>
        intro n o5 o6 hn
        have : n = s.2.1.1 + 1 := by omega
        subst this
        rw [q_238_38]
        simp (disch := omega) only [q_238_0, q_238_1, q_238_2, q_238_6, q_238_7, q_238_10, q_238_13, q_238_14, q_238_17, q_238_18, q_238_19, q_238_20, q_238_23, q_238_26, q_238_27, q_238_28, q_238_29, q_238_30, q_238_33, q_238_34, q_238_35, q_238_36, q_238_40, q_238_41, q_238_44, q_238_47, q_238_48, q_238_51, q_238_53, q_238_54, q_238_55, q_238_58, q_238_59, q_238_62, q_238_63, q_238_65, q_238_66, q_238_70, q_238_71, q_238_74, q_238_76, q_238_77, q_238_80, q_238_82, q_238_83, q_238_86, q_238_87, q_238_90, q_238_92, q_238_93, q_238_95, q_238_96, q_238_97, q_238_98, q_238_100, q_238_103, q_238_106, q_238_109, q_238_110, q_238_111, q_238_113, q_238_114, q_238_115, q_238_116, q_238_119, q_238_122, q_238_123, q_238_e, va_rf_s, bz_0, bz_1, bz_ok, bb_ok, Nat.add_assoc, w_lt, w_add, w_sub, w_mul, w_div, em_def, w_eq, w_inT, ↓ilt_t, ↓ilt_f, ↓ieq_t, ↓ieq_f, ntT, w_b, w_ix, kx_v, kx_n, kl_n, kl_i, kl_r, kl_o, inA_i, inA_s, inA_b, inA_z, inA_l, inA_0, inA_4, inA_5, inA_6, inA_7, inA_8, inA_9, inA_10, al_0, al_1, al_2, al_4, al_5, al_98, bsP_2, bsP_3, wr_same, wr_wr, wr_ne, up_same, up_ne, Nat.reduceAdd, Int.reduceAdd, Int.reduceSub, Int.reduceMul, Int.reduceLT, Int.reduceLE, Int.reduceEq, Int.reduceNeg, Int.reduceToNat, Nat.reduceLT, Nat.reduceLeDiff, Nat.reduceEqDiff, ↓reduceIte, true_and, and_true, not_true_eq_false, not_false_eq_true, eq_self, or_true, true_or, or_false, false_or, if_true, if_false, Int.toNat_natCast, w_ite, Nat.add_zero, reduceCtorEq, ne_eq, hm, e13]
        exact hQ'
      | succ j ih =>
        intro n o5 o6 hn
        have ih' := fun o5 o6 => ih (n + 1) o5 o6 (by omega)
        simp only [prF] at ih'
        unfold prS at ih'
        simp only [Int.natCast_add, Int.natCast_one] at ih'
        have eln := hA.len (show n ≤ s.2.1.1 by omega)
        rw [q_238_38]
        cases hT : T (rlz s l) (n : Int) with
        | none =>
          rw [hT] at eln ih'
          have ewl : (w 1).toInt64 = wl 1 := w_l (by decide) (by decide)
          simp (disch := omega) only [q_238_0, q_238_1, q_238_2, q_238_6, q_238_7, q_238_10, q_238_13, q_238_14, q_238_17, q_238_18, q_238_19, q_238_20, q_238_23, q_238_26, q_238_27, q_238_28, q_238_29, q_238_30, q_238_33, q_238_34, q_238_35, q_238_36, q_238_40, q_238_41, q_238_44, q_238_47, q_238_48, q_238_51, q_238_53, q_238_54, q_238_55, q_238_58, q_238_59, q_238_62, q_238_63, q_238_65, q_238_66, q_238_70, q_238_71, q_238_74, q_238_76, q_238_77, q_238_80, q_238_82, q_238_83, q_238_86, q_238_87, q_238_90, q_238_92, q_238_93, q_238_95, q_238_96, q_238_97, q_238_98, q_238_100, q_238_103, q_238_106, q_238_109, q_238_110, q_238_111, q_238_113, q_238_114, q_238_115, q_238_116, q_238_119, q_238_122, q_238_123, q_238_e, va_rf_s, bz_0, bz_1, bz_ok, bb_ok, Nat.add_assoc, w_lt, w_add, w_sub, w_mul, w_div, em_def, w_eq, w_inT, ↓ilt_t, ↓ilt_f, ↓ieq_t, ↓ieq_f, ntT, w_b, w_ix, kx_v, kx_n, kl_n, kl_i, kl_r, kl_o, inA_i, inA_s, inA_b, inA_z, inA_l, inA_0, inA_4, inA_5, inA_6, inA_7, inA_8, inA_9, inA_10, al_0, al_1, al_2, al_4, al_5, al_98, bsP_2, bsP_3, wr_same, wr_wr, wr_ne, up_same, up_ne, Nat.reduceAdd, Int.reduceAdd, Int.reduceSub, Int.reduceMul, Int.reduceLT, Int.reduceLE, Int.reduceEq, Int.reduceNeg, Int.reduceToNat, Nat.reduceLT, Nat.reduceLeDiff, Nat.reduceEqDiff, ↓reduceIte, true_and, and_true, not_true_eq_false, not_false_eq_true, eq_self, or_true, true_or, or_false, false_or, if_true, if_false, Int.toNat_natCast, w_ite, Nat.add_zero, reduceCtorEq, ne_eq, hm, e13, k3, eln]
          rw [q_238_68]
          simp (disch := omega) only [q_238_0, q_238_1, q_238_2, q_238_6, q_238_7, q_238_10, q_238_13, q_238_14, q_238_17, q_238_18, q_238_19, q_238_20, q_238_23, q_238_26, q_238_27, q_238_28, q_238_29, q_238_30, q_238_33, q_238_34, q_238_35, q_238_36, q_238_40, q_238_41, q_238_44, q_238_47, q_238_48, q_238_51, q_238_53, q_238_54, q_238_55, q_238_58, q_238_59, q_238_62, q_238_63, q_238_65, q_238_66, q_238_70, q_238_71, q_238_74, q_238_76, q_238_77, q_238_80, q_238_82, q_238_83, q_238_86, q_238_87, q_238_90, q_238_92, q_238_93, q_238_95, q_238_96, q_238_97, q_238_98, q_238_100, q_238_103, q_238_106, q_238_109, q_238_110, q_238_111, q_238_113, q_238_114, q_238_115, q_238_116, q_238_119, q_238_122, q_238_123, q_238_e, va_rf_s, bz_0, bz_1, bz_ok, bb_ok, Nat.add_assoc, w_lt, w_add, w_sub, w_mul, w_div, em_def, w_eq, w_inT, ↓ilt_t, ↓ilt_f, ↓ieq_t, ↓ieq_f, ntT, w_b, w_ix, kx_v, kx_n, kl_n, kl_i, kl_r, kl_o, inA_i, inA_s, inA_b, inA_z, inA_l, inA_0, inA_4, inA_5, inA_6, inA_7, inA_8, inA_9, inA_10, al_0, al_1, al_2, al_4, al_5, al_98, bsP_2, bsP_3, wr_same, wr_wr, wr_ne, up_same, up_ne, Nat.reduceAdd, Int.reduceAdd, Int.reduceSub, Int.reduceMul, Int.reduceLT, Int.reduceLE, Int.reduceEq, Int.reduceNeg, Int.reduceToNat, Nat.reduceLT, Nat.reduceLeDiff, Nat.reduceEqDiff, ↓reduceIte, true_and, and_true, not_true_eq_false, not_false_eq_true, eq_self, or_true, true_or, or_false, false_or, if_true, if_false, Int.toNat_natCast, w_ite, Nat.add_zero, reduceCtorEq, ne_eq, hm, e13, k3, eln, ewl]
          exact ih' _ _
        | some t =>
          have ht := T_ok hok hT
          rw [hT] at eln ih'
          obtain ⟨a1, -, a3⟩ := hA n (by omega)
          obtain ⟨-, aT⟩ := a3 t hT
          have hb2 := bgn_le hok (n + 1)
          rw [bgn_s hT] at hb2
          have lp2 : ∀ (j c : Nat), c + j = t.length → XX (d + 70) 238 68 [some (.ref m), some (.int (w l)), some (.long (prF (fun n => T (rlz s l) n) n)), none, some (.int (w n)), some (.int (w (lsum (t.take c)))), some (.int (w c))] [] (mk S I2 L R G) Q := by
            intro j
            induction j with
            | zero =>
              intro c hc
              have : c = t.length := by omega
              subst this
              rw [List.take_length, q_238_68]
              have hlb := lsum_bd t ht.1
              have ewl := w_l (a := lsum t) (by omega) (by omega)
              simp (disch := omega) only [q_238_0, q_238_1, q_238_2, q_238_6, q_238_7, q_238_10, q_238_13, q_238_14, q_238_17, q_238_18, q_238_19, q_238_20, q_238_23, q_238_26, q_238_27, q_238_28, q_238_29, q_238_30, q_238_33, q_238_34, q_238_35, q_238_36, q_238_40, q_238_41, q_238_44, q_238_47, q_238_48, q_238_51, q_238_53, q_238_54, q_238_55, q_238_58, q_238_59, q_238_62, q_238_63, q_238_65, q_238_66, q_238_70, q_238_71, q_238_74, q_238_76, q_238_77, q_238_80, q_238_82, q_238_83, q_238_86, q_238_87, q_238_90, q_238_92, q_238_93, q_238_95, q_238_96, q_238_97, q_238_98, q_238_100, q_238_103, q_238_106, q_238_109, q_238_110, q_238_111, q_238_113, q_238_114, q_238_115, q_238_116, q_238_119, q_238_122, q_238_123, q_238_e, va_rf_s, bz_0, bz_1, bz_ok, bb_ok, Nat.add_assoc, w_lt, w_add, w_sub, w_mul, w_div, em_def, w_eq, w_inT, ↓ilt_t, ↓ilt_f, ↓ieq_t, ↓ieq_f, ntT, w_b, w_ix, kx_v, kx_n, kl_n, kl_i, kl_r, kl_o, inA_i, inA_s, inA_b, inA_z, inA_l, inA_0, inA_4, inA_5, inA_6, inA_7, inA_8, inA_9, inA_10, al_0, al_1, al_2, al_4, al_5, al_98, bsP_2, bsP_3, wr_same, wr_wr, wr_ne, up_same, up_ne, Nat.reduceAdd, Int.reduceAdd, Int.reduceSub, Int.reduceMul, Int.reduceLT, Int.reduceLE, Int.reduceEq, Int.reduceNeg, Int.reduceToNat, Nat.reduceLT, Nat.reduceLeDiff, Nat.reduceEqDiff, ↓reduceIte, true_and, and_true, not_true_eq_false, not_false_eq_true, eq_self, or_true, true_or, or_false, false_or, if_true, if_false, Int.toNat_natCast, w_ite, Nat.add_zero, reduceCtorEq, ne_eq, hm, k3, eln, ewl]
              exact ih' _ _
            | succ j jh =>
              intro c hc
              have hcl : c < t.length := by omega
              have jh' := jh (c + 1) (by omega)
              have hsn : t.take (c + 1) = t.take c ++ [t.getD c 0] := by
                rw [List.take_add_one, List.getD_eq_getElem?_getD, List.getElem?_eq_getElem hcl]; rfl
              rw [hsn, lsum_app, show lsum [t.getD c 0] = t.getD c 0 from Int.add_zero _] at jh'
              simp only [Int.natCast_add, Int.natCast_one] at jh'
              have hch := aT c hcl
              have e6 : ((bgn (rlz s l) n : Int) + c).toNat = bgn (rlz s l) n + c := by omega
              rw [q_238_68]
              simp (disch := omega) only [q_238_0, q_238_1, q_238_2, q_238_6, q_238_7, q_238_10, q_238_13, q_238_14, q_238_17, q_238_18, q_238_19, q_238_20, q_238_23, q_238_26, q_238_27, q_238_28, q_238_29, q_238_30, q_238_33, q_238_34, q_238_35, q_238_36, q_238_40, q_238_41, q_238_44, q_238_47, q_238_48, q_238_51, q_238_53, q_238_54, q_238_55, q_238_58, q_238_59, q_238_62, q_238_63, q_238_65, q_238_66, q_238_70, q_238_71, q_238_74, q_238_76, q_238_77, q_238_80, q_238_82, q_238_83, q_238_86, q_238_87, q_238_90, q_238_92, q_238_93, q_238_95, q_238_96, q_238_97, q_238_98, q_238_100, q_238_103, q_238_106, q_238_109, q_238_110, q_238_111, q_238_113, q_238_114, q_238_115, q_238_116, q_238_119, q_238_122, q_238_123, q_238_e, va_rf_s, bz_0, bz_1, bz_ok, bb_ok, Nat.add_assoc, w_lt, w_add, w_sub, w_mul, w_div, em_def, w_eq, w_inT, ↓ilt_t, ↓ilt_f, ↓ieq_t, ↓ieq_f, ntT, w_b, w_ix, kx_v, kx_n, kl_n, kl_i, kl_r, kl_o, inA_i, inA_s, inA_b, inA_z, inA_l, inA_0, inA_4, inA_5, inA_6, inA_7, inA_8, inA_9, inA_10, al_0, al_1, al_2, al_4, al_5, al_98, bsP_2, bsP_3, wr_same, wr_wr, wr_ne, up_same, up_ne, Nat.reduceAdd, Int.reduceAdd, Int.reduceSub, Int.reduceMul, Int.reduceLT, Int.reduceLE, Int.reduceEq, Int.reduceNeg, Int.reduceToNat, Nat.reduceLT, Nat.reduceLeDiff, Nat.reduceEqDiff, ↓reduceIte, true_and, and_true, not_true_eq_false, not_false_eq_true, eq_self, or_true, true_or, or_false, false_or, if_true, if_false, Int.toNat_natCast, w_ite, Nat.add_zero, reduceCtorEq, ne_eq, hm, k1, k2, k3, eln, a1, hch, e6]
              exact jh'
          have hlp := lp2 t.length 0 (by omega)
          simp only [List.take_zero, lsum, Int.natCast_zero] at hlp
          simp (disch := omega) only [q_238_0, q_238_1, q_238_2, q_238_6, q_238_7, q_238_10, q_238_13, q_238_14, q_238_17, q_238_18, q_238_19, q_238_20, q_238_23, q_238_26, q_238_27, q_238_28, q_238_29, q_238_30, q_238_33, q_238_34, q_238_35, q_238_36, q_238_40, q_238_41, q_238_44, q_238_47, q_238_48, q_238_51, q_238_53, q_238_54, q_238_55, q_238_58, q_238_59, q_238_62, q_238_63, q_238_65, q_238_66, q_238_70, q_238_71, q_238_74, q_238_76, q_238_77, q_238_80, q_238_82, q_238_83, q_238_86, q_238_87, q_238_90, q_238_92, q_238_93, q_238_95, q_238_96, q_238_97, q_238_98, q_238_100, q_238_103, q_238_106, q_238_109, q_238_110, q_238_111, q_238_113, q_238_114, q_238_115, q_238_116, q_238_119, q_238_122, q_238_123, q_238_e, va_rf_s, bz_0, bz_1, bz_ok, bb_ok, Nat.add_assoc, w_lt, w_add, w_sub, w_mul, w_div, em_def, w_eq, w_inT, ↓ilt_t, ↓ilt_f, ↓ieq_t, ↓ieq_f, ntT, w_b, w_ix, kx_v, kx_n, kl_n, kl_i, kl_r, kl_o, inA_i, inA_s, inA_b, inA_z, inA_l, inA_0, inA_4, inA_5, inA_6, inA_7, inA_8, inA_9, inA_10, al_0, al_1, al_2, al_4, al_5, al_98, bsP_2, bsP_3, wr_same, wr_wr, wr_ne, up_same, up_ne, Nat.reduceAdd, Int.reduceAdd, Int.reduceSub, Int.reduceMul, Int.reduceLT, Int.reduceLE, Int.reduceEq, Int.reduceNeg, Int.reduceToNat, Nat.reduceLT, Nat.reduceLeDiff, Nat.reduceEqDiff, ↓reduceIte, true_and, and_true, not_true_eq_false, not_false_eq_true, eq_self, or_true, true_or, or_false, false_or, if_true, if_false, Int.toNat_natCast, w_ite, Nat.add_zero, reduceCtorEq, ne_eq, hm, e13, k3, eln]
          exact hlp
    simp (disch := omega) only [q_238_0, q_238_1, q_238_2, q_238_6, q_238_7, q_238_10, q_238_13, q_238_14, q_238_17, q_238_18, q_238_19, q_238_20, q_238_23, q_238_26, q_238_27, q_238_28, q_238_29, q_238_30, q_238_33, q_238_34, q_238_35, q_238_36, q_238_40, q_238_41, q_238_44, q_238_47, q_238_48, q_238_51, q_238_53, q_238_54, q_238_55, q_238_58, q_238_59, q_238_62, q_238_63, q_238_65, q_238_66, q_238_70, q_238_71, q_238_74, q_238_76, q_238_77, q_238_80, q_238_82, q_238_83, q_238_86, q_238_87, q_238_90, q_238_92, q_238_93, q_238_95, q_238_96, q_238_97, q_238_98, q_238_100, q_238_103, q_238_106, q_238_109, q_238_110, q_238_111, q_238_113, q_238_114, q_238_115, q_238_116, q_238_119, q_238_122, q_238_123, q_238_e, va_rf_s, bz_0, bz_1, bz_ok, bb_ok, Nat.add_assoc, w_lt, w_add, w_sub, w_mul, w_div, em_def, w_eq, w_inT, ↓ilt_t, ↓ilt_f, ↓ieq_t, ↓ieq_f, ntT, w_b, w_ix, kx_v, kx_n, kl_n, kl_i, kl_r, kl_o, inA_i, inA_s, inA_b, inA_z, inA_l, inA_0, inA_4, inA_5, inA_6, inA_7, inA_8, inA_9, inA_10, al_0, al_1, al_2, al_4, al_5, al_98, bsP_2, bsP_3, wr_same, wr_wr, wr_ne, up_same, up_ne, Nat.reduceAdd, Int.reduceAdd, Int.reduceSub, Int.reduceMul, Int.reduceLT, Int.reduceLE, Int.reduceEq, Int.reduceNeg, Int.reduceToNat, Nat.reduceLT, Nat.reduceLeDiff, Nat.reduceEqDiff, ↓reduceIte, true_and, and_true, not_true_eq_false, not_false_eq_true, eq_self, or_true, true_or, or_false, false_or, if_true, if_false, Int.toNat_natCast, w_ite, Nat.add_zero, reduceCtorEq, ne_eq]
    exact lp (s.2.1.1 + 1) 0 none none (by omega)
  · have s182 := fun {d : Nat} {Q : XO → Hp → Prop} {A : Hp} => n182 (d := d) (Q := Q) (A := A) hl cl
    simp (disch := omega) only [q_238_0, q_238_1, q_238_2, q_238_6, q_238_7, q_238_10, q_238_13, q_238_14, q_238_17, q_238_18, q_238_19, q_238_20, q_238_23, q_238_26, q_238_27, q_238_28, q_238_29, q_238_30, q_238_33, q_238_34, q_238_35, q_238_36, q_238_40, q_238_41, q_238_44, q_238_47, q_238_48, q_238_51, q_238_53, q_238_54, q_238_55, q_238_58, q_238_59, q_238_62, q_238_63, q_238_65, q_238_66, q_238_70, q_238_71, q_238_74, q_238_76, q_238_77, q_238_80, q_238_82, q_238_83, q_238_86, q_238_87, q_238_90, q_238_92, q_238_93, q_238_95, q_238_96, q_238_97, q_238_98, q_238_100, q_238_103, q_238_106, q_238_109, q_238_110, q_238_111, q_238_113, q_238_114, q_238_115, q_238_116, q_238_119, q_238_122, q_238_123, q_238_e, va_rf_s, bz_0, bz_1, bz_ok, bb_ok, Nat.add_assoc, w_lt, w_add, w_sub, w_mul, w_div, em_def, w_eq, w_inT, ↓ilt_t, ↓ilt_f, ↓ieq_t, ↓ieq_f, ntT, w_b, w_ix, kx_v, kx_n, kl_n, kl_i, kl_r, kl_o, inA_i, inA_s, inA_b, inA_z, inA_l, inA_0, inA_4, inA_5, inA_6, inA_7, inA_8, inA_9, inA_10, al_0, al_1, al_2, al_4, al_5, al_98, bsP_2, bsP_3, wr_same, wr_wr, wr_ne, up_same, up_ne, Nat.reduceAdd, Int.reduceAdd, Int.reduceSub, Int.reduceMul, Int.reduceLT, Int.reduceLE, Int.reduceEq, Int.reduceNeg, Int.reduceToNat, Nat.reduceLT, Nat.reduceLeDiff, Nat.reduceEqDiff, ↓reduceIte, true_and, and_true, not_true_eq_false, not_false_eq_true, eq_self, or_true, true_or, or_false, false_or, if_true, if_false, Int.toNat_natCast, w_ite, Nat.add_zero, reduceCtorEq, ne_eq, hm, s182, b10]
    refine hQ0 cl _ L (h1.cnt0 hf.1) (fun a ha => ⟨?_, rfl⟩) ?_
    · rw [wr_ne (by omega), wr_ne (by omega)]; exact (hF a ha).1
    · rw [wr_ne (by omega), wr_same, up_same]
/-- how two that are laid stand -/
theorem sp_195 {rs : List Rl} {h a b : Nat} {t u : List Int} (hL : MLay S R m) (hr : rsOk rs) (hA : LdA I m rs h) (hh : h ≤ 1000) (ha : a ≤ h) (hb : b ≤ h) (ht : T rs a = some t) (hu : T rs b = some u) : XC (d + 1) 195 [.ref m, .int (w a), .int (w b)] (mk S I L R G) Q ↔ Q (.inl (some (.int (w (lexc t u))))) (mk S I L R G) := by
  obtain ⟨k1, k2, k3, -⟩ := hL.2.2.2.2.2.2.2.2.1
  have hm := hL.1
  obtain ⟨a1, -, a3⟩ := hA a ha
  obtain ⟨b1, -, b3⟩ := hA b hb
  obtain ⟨a4, a5⟩ := a3 t ht
  obtain ⟨b4, b5⟩ := b3 u hu
  have hto := T_ok hr ht
  have huo := T_ok hr hu
  have hba := bgn_le hr (a + 1)
  have hbb := bgn_le hr (b + 1)
  rw [bgn_s ht] at hba
  rw [bgn_s hu] at hbb
  have s156 := fun {d : Nat} {Q : XO → Hp → Prop} {A : Hp} => sp_156 (d := d) (Q := Q) (A := A) (a := (t.length : Int)) (b := (u.length : Int)) (by omega) (by omega) (by omega) (by omega)
  rw [show min (t.length : Int) (u.length : Int) = ((min t.length u.length : Nat) : Int) by omega] at s156
  have lp : ∀ (j c : Nat), c + j = min t.length u.length → (XX (d + 1) 195 19 [some (.ref m), some (.int (w a)), some (.int (w b)), some (.int (w (min t.length u.length : Nat))), some (.int (w c))] [] (mk S I L R G) Q ↔ Q (.inl (some (.int (w (lexc (t.drop c) (u.drop c)))))) (mk S I L R G)) := by
    intro j
    induction j with
    | zero =>
      intro c hc
      rw [lexc_end (show c = min t.length u.length by omega), q_195_19]
      simp (disch := omega) only [q_195_0, q_195_1, q_195_4, q_195_5, q_195_6, q_195_7, q_195_10, q_195_11, q_195_12, q_195_15, q_195_16, q_195_17, q_195_21, q_195_22, q_195_25, q_195_26, q_195_29, q_195_30, q_195_33, q_195_34, q_195_35, q_195_37, q_195_38, q_195_39, q_195_40, q_195_43, q_195_44, q_195_47, q_195_48, q_195_49, q_195_51, q_195_52, q_195_53, q_195_56, q_195_57, q_195_60, q_195_61, q_195_64, q_195_65, q_195_66, q_195_68, q_195_69, q_195_70, q_195_71, q_195_74, q_195_75, q_195_78, q_195_79, q_195_80, q_195_82, q_195_83, q_195_84, q_195_85, q_195_86, q_195_89, q_195_92, q_195_93, q_195_96, q_195_97, q_195_98, q_195_99, q_195_102, q_195_103, q_195_104, q_195_105, q_195_e, va_rf_s, bz_0, bz_1, bz_ok, bb_ok, Nat.add_assoc, w_lt, w_add, w_sub, w_mul, w_div, em_def, w_eq, w_inT, ↓ilt_t, ↓ilt_f, ↓ieq_t, ↓ieq_f, ntT, w_b, w_ix, kx_v, kx_n, kl_n, kl_i, kl_r, kl_o, inA_i, inA_s, inA_b, inA_z, inA_l, inA_0, inA_4, inA_5, inA_6, inA_7, inA_8, inA_9, inA_10, al_0, al_1, al_2, al_4, al_5, al_98, bsP_2, bsP_3, wr_same, wr_wr, wr_ne, up_same, up_ne, Nat.reduceAdd, Int.reduceAdd, Int.reduceSub, Int.reduceMul, Int.reduceLT, Int.reduceLE, Int.reduceEq, Int.reduceNeg, Int.reduceToNat, Nat.reduceLT, Nat.reduceLeDiff, Nat.reduceEqDiff, ↓reduceIte, true_and, and_true, not_true_eq_false, not_false_eq_true, eq_self, or_true, true_or, or_false, false_or, if_true, if_false, Int.toNat_natCast, w_ite, Nat.add_zero, reduceCtorEq, ne_eq, hm, k3, a4, b4]
    | succ j ih =>
      intro c hc
      have h1 : c < t.length := by omega
      have h2 : c < u.length := by omega
      have ih' := ih (c + 1) (by omega)
      simp only [Int.natCast_add, Int.natCast_one] at ih'
      have ea := a5 c h1
      have eb := b5 c h2
      have g1 := hto.1.get h1
      have g2 := huo.1.get h2
      have e6 : ((bgn rs a : Int) + c).toNat = bgn rs a + c := by omega
      have e7 : ((bgn rs b : Int) + c).toNat = bgn rs b + c := by omega
      rw [drop_cons h1, drop_cons h2, q_195_19]
      unfold lexc
      by_cases c0 : t.getD c 0 = u.getD c 0
      · rw [if_pos (by omega)]
        simp (disch := omega) only [q_195_0, q_195_1, q_195_4, q_195_5, q_195_6, q_195_7, q_195_10, q_195_11, q_195_12, q_195_15, q_195_16, q_195_17, q_195_21, q_195_22, q_195_25, q_195_26, q_195_29, q_195_30, q_195_33, q_195_34, q_195_35, q_195_37, q_195_38, q_195_39, q_195_40, q_195_43, q_195_44, q_195_47, q_195_48, q_195_49, q_195_51, q_195_52, q_195_53, q_195_56, q_195_57, q_195_60, q_195_61, q_195_64, q_195_65, q_195_66, q_195_68, q_195_69, q_195_70, q_195_71, q_195_74, q_195_75, q_195_78, q_195_79, q_195_80, q_195_82, q_195_83, q_195_84, q_195_85, q_195_86, q_195_89, q_195_92, q_195_93, q_195_96, q_195_97, q_195_98, q_195_99, q_195_102, q_195_103, q_195_104, q_195_105, q_195_e, va_rf_s, bz_0, bz_1, bz_ok, bb_ok, Nat.add_assoc, w_lt, w_add, w_sub, w_mul, w_div, em_def, w_eq, w_inT, ↓ilt_t, ↓ilt_f, ↓ieq_t, ↓ieq_f, ntT, w_b, w_ix, kx_v, kx_n, kl_n, kl_i, kl_r, kl_o, inA_i, inA_s, inA_b, inA_z, inA_l, inA_0, inA_4, inA_5, inA_6, inA_7, inA_8, inA_9, inA_10, al_0, al_1, al_2, al_4, al_5, al_98, bsP_2, bsP_3, wr_same, wr_wr, wr_ne, up_same, up_ne, Nat.reduceAdd, Int.reduceAdd, Int.reduceSub, Int.reduceMul, Int.reduceLT, Int.reduceLE, Int.reduceEq, Int.reduceNeg, Int.reduceToNat, Nat.reduceLT, Nat.reduceLeDiff, Nat.reduceEqDiff, ↓reduceIte, true_and, and_true, not_true_eq_false, not_false_eq_true, eq_self, or_true, true_or, or_false, false_or, if_true, if_false, Int.toNat_natCast, w_ite, Nat.add_zero, reduceCtorEq, ne_eq, hm, k1, k2, k3, a1, b1, e6, e7, ea, eb]
        exact ih'
      · rw [if_neg (by omega), show t.getD c 0 % 256 - u.getD c 0 % 256 = t.getD c 0 - u.getD c 0 by omega]
        simp (disch := omega) only [q_195_0, q_195_1, q_195_4, q_195_5, q_195_6, q_195_7, q_195_10, q_195_11, q_195_12, q_195_15, q_195_16, q_195_17, q_195_21, q_195_22, q_195_25, q_195_26, q_195_29, q_195_30, q_195_33, q_195_34, q_195_35, q_195_37, q_195_38, q_195_39, q_195_40, q_195_43, q_195_44, q_195_47, q_195_48, q_195_49, q_195_51, q_195_52, q_195_53, q_195_56, q_195_57, q_195_60, q_195_61, q_195_64, q_195_65, q_195_66, q_195_68, q_195_69, q_195_70, q_195_71, q_195_74, q_195_75, q_195_78, q_195_79, q_195_80, q_195_82, q_195_83, q_195_84, q_195_85, q_195_86, q_195_89, q_195_92, q_195_93, q_195_96, q_195_97, q_195_98, q_195_99, q_195_102, q_195_103, q_195_104, q_195_105, q_195_e, va_rf_s, bz_0, bz_1, bz_ok, bb_ok, Nat.add_assoc, w_lt, w_add, w_sub, w_mul, w_div, em_def, w_eq, w_inT, ↓ilt_t, ↓ilt_f, ↓ieq_t, ↓ieq_f, ntT, w_b, w_ix, kx_v, kx_n, kl_n, kl_i, kl_r, kl_o, inA_i, inA_s, inA_b, inA_z, inA_l, inA_0, inA_4, inA_5, inA_6, inA_7, inA_8, inA_9, inA_10, al_0, al_1, al_2, al_4, al_5, al_98, bsP_2, bsP_3, wr_same, wr_wr, wr_ne, up_same, up_ne, Nat.reduceAdd, Int.reduceAdd, Int.reduceSub, Int.reduceMul, Int.reduceLT, Int.reduceLE, Int.reduceEq, Int.reduceNeg, Int.reduceToNat, Nat.reduceLT, Nat.reduceLeDiff, Nat.reduceEqDiff, ↓reduceIte, true_and, and_true, not_true_eq_false, not_false_eq_true, eq_self, or_true, true_or, or_false, false_or, if_true, if_false, Int.toNat_natCast, w_ite, Nat.add_zero, reduceCtorEq, ne_eq, hm, k1, k2, k3, a1, b1, e6, e7, ea, eb]
  have := lp (min t.length u.length) 0 (by omega)
  simp only [List.drop_zero, Int.natCast_zero] at this
  simp (disch := omega) only [q_195_0, q_195_1, q_195_4, q_195_5, q_195_6, q_195_7, q_195_10, q_195_11, q_195_12, q_195_15, q_195_16, q_195_17, q_195_21, q_195_22, q_195_25, q_195_26, q_195_29, q_195_30, q_195_33, q_195_34, q_195_35, q_195_37, q_195_38, q_195_39, q_195_40, q_195_43, q_195_44, q_195_47, q_195_48, q_195_49, q_195_51, q_195_52, q_195_53, q_195_56, q_195_57, q_195_60, q_195_61, q_195_64, q_195_65, q_195_66, q_195_68, q_195_69, q_195_70, q_195_71, q_195_74, q_195_75, q_195_78, q_195_79, q_195_80, q_195_82, q_195_83, q_195_84, q_195_85, q_195_86, q_195_89, q_195_92, q_195_93, q_195_96, q_195_97, q_195_98, q_195_99, q_195_102, q_195_103, q_195_104, q_195_105, q_195_e, va_rf_s, bz_0, bz_1, bz_ok, bb_ok, Nat.add_assoc, w_lt, w_add, w_sub, w_mul, w_div, em_def, w_eq, w_inT, ↓ilt_t, ↓ilt_f, ↓ieq_t, ↓ieq_f, ntT, w_b, w_ix, kx_v, kx_n, kl_n, kl_i, kl_r, kl_o, inA_i, inA_s, inA_b, inA_z, inA_l, inA_0, inA_4, inA_5, inA_6, inA_7, inA_8, inA_9, inA_10, al_0, al_1, al_2, al_4, al_5, al_98, bsP_2, bsP_3, wr_same, wr_wr, wr_ne, up_same, up_ne, Nat.reduceAdd, Int.reduceAdd, Int.reduceSub, Int.reduceMul, Int.reduceLT, Int.reduceLE, Int.reduceEq, Int.reduceNeg, Int.reduceToNat, Nat.reduceLT, Nat.reduceLeDiff, Nat.reduceEqDiff, ↓reduceIte, true_and, and_true, not_true_eq_false, not_false_eq_true, eq_self, or_true, true_or, or_false, false_or, if_true, if_false, Int.toNat_natCast, w_ite, Nat.add_zero, reduceCtorEq, ne_eq, hm, k3, a4, b4, s156]
  exact this
theorem sp_196 {rs : List Rl} {h a b : Nat} {t u : List Int} (hL : MLay S R m) (hr : rsOk rs) (hA : LdA I m rs h) (hh : h ≤ 1000) (ha : a ≤ h) (hb : b ≤ h) (ht : T rs a = some t) (hu : T rs b = some u) : XC (d + 2) 196 [.ref m, .int (w a), .int (w b)] (mk S I L R G) Q ↔ Q (.inl (some (.int (bz (decide (t = u)))))) (mk S I L R G) := by
  obtain ⟨k1, k2, k3, -⟩ := hL.2.2.2.2.2.2.2.2.1
  have hm := hL.1
  have a4 := ((hA a ha).2.2 t ht).1
  have b4 := ((hA b hb).2.2 u hu).1
  have hto := T_ok hr ht
  have huo := T_ok hr hu
  have s195 := fun {d : Nat} {Q : XO → Hp → Prop} => sp_195 (d := d) (Q := Q) (L := L) (G := G) hL hr hA hh ha hb ht hu
  have hlb := lexc_bd t u
  by_cases c : t = u
  · have h0 := (lexc_small hto.1 huo.1).mpr c
    rw [h0] at s195
    rw [decide_eq_true c]
    have hlen : t.length = u.length := by rw [c]
    rw [← hlen] at b4
    simp (disch := omega) only [q_196_0, q_196_1, q_196_4, q_196_5, q_196_6, q_196_7, q_196_10, q_196_11, q_196_14, q_196_15, q_196_16, q_196_17, q_196_20, q_196_21, q_196_22, q_196_25, q_196_26, q_196_27, q_196_28, q_196_31, q_196_34, q_196_35, q_196_38, q_196_39, q_196_e, va_rf_s, bz_0, bz_1, bz_ok, bb_ok, Nat.add_assoc, w_lt, w_add, w_sub, w_mul, w_div, em_def, w_eq, w_inT, ↓ilt_t, ↓ilt_f, ↓ieq_t, ↓ieq_f, ntT, w_b, w_ix, kx_v, kx_n, kl_n, kl_i, kl_r, kl_o, inA_i, inA_s, inA_b, inA_z, inA_l, inA_0, inA_4, inA_5, inA_6, inA_7, inA_8, inA_9, inA_10, al_0, al_1, al_2, al_4, al_5, al_98, bsP_2, bsP_3, wr_same, wr_wr, wr_ne, up_same, up_ne, Nat.reduceAdd, Int.reduceAdd, Int.reduceSub, Int.reduceMul, Int.reduceLT, Int.reduceLE, Int.reduceEq, Int.reduceNeg, Int.reduceToNat, Nat.reduceLT, Nat.reduceLeDiff, Nat.reduceEqDiff, ↓reduceIte, true_and, and_true, not_true_eq_false, not_false_eq_true, eq_self, or_true, true_or, or_false, false_or, if_true, if_false, Int.toNat_natCast, w_ite, Nat.add_zero, reduceCtorEq, ne_eq, hm, k3, a4, b4, s195]
    exact Iff.rfl
  · have h0 : lexc t u ≠ 0 := fun e => c ((lexc_small hto.1 huo.1).mp e)
    rw [decide_eq_false c]
    by_cases cl : t.length = u.length
    · simp (disch := omega) only [q_196_0, q_196_1, q_196_4, q_196_5, q_196_6, q_196_7, q_196_10, q_196_11, q_196_14, q_196_15, q_196_16, q_196_17, q_196_20, q_196_21, q_196_22, q_196_25, q_196_26, q_196_27, q_196_28, q_196_31, q_196_34, q_196_35, q_196_38, q_196_39, q_196_e, va_rf_s, bz_0, bz_1, bz_ok, bb_ok, Nat.add_assoc, w_lt, w_add, w_sub, w_mul, w_div, em_def, w_eq, w_inT, ↓ilt_t, ↓ilt_f, ↓ieq_t, ↓ieq_f, ntT, w_b, w_ix, kx_v, kx_n, kl_n, kl_i, kl_r, kl_o, inA_i, inA_s, inA_b, inA_z, inA_l, inA_0, inA_4, inA_5, inA_6, inA_7, inA_8, inA_9, inA_10, al_0, al_1, al_2, al_4, al_5, al_98, bsP_2, bsP_3, wr_same, wr_wr, wr_ne, up_same, up_ne, Nat.reduceAdd, Int.reduceAdd, Int.reduceSub, Int.reduceMul, Int.reduceLT, Int.reduceLE, Int.reduceEq, Int.reduceNeg, Int.reduceToNat, Nat.reduceLT, Nat.reduceLeDiff, Nat.reduceEqDiff, ↓reduceIte, true_and, and_true, not_true_eq_false, not_false_eq_true, eq_self, or_true, true_or, or_false, false_or, if_true, if_false, Int.toNat_natCast, w_ite, Nat.add_zero, reduceCtorEq, ne_eq, hm, k3, a4, b4, s195]
      exact Iff.rfl
    · simp (disch := omega) only [q_196_0, q_196_1, q_196_4, q_196_5, q_196_6, q_196_7, q_196_10, q_196_11, q_196_14, q_196_15, q_196_16, q_196_17, q_196_20, q_196_21, q_196_22, q_196_25, q_196_26, q_196_27, q_196_28, q_196_31, q_196_34, q_196_35, q_196_38, q_196_39, q_196_e, va_rf_s, bz_0, bz_1, bz_ok, bb_ok, Nat.add_assoc, w_lt, w_add, w_sub, w_mul, w_div, em_def, w_eq, w_inT, ↓ilt_t, ↓ilt_f, ↓ieq_t, ↓ieq_f, ntT, w_b, w_ix, kx_v, kx_n, kl_n, kl_i, kl_r, kl_o, inA_i, inA_s, inA_b, inA_z, inA_l, inA_0, inA_4, inA_5, inA_6, inA_7, inA_8, inA_9, inA_10, al_0, al_1, al_2, al_4, al_5, al_98, bsP_2, bsP_3, wr_same, wr_wr, wr_ne, up_same, up_ne, Nat.reduceAdd, Int.reduceAdd, Int.reduceSub, Int.reduceMul, Int.reduceLT, Int.reduceLE, Int.reduceEq, Int.reduceNeg, Int.reduceToNat, Nat.reduceLT, Nat.reduceLeDiff, Nat.reduceEqDiff, ↓reduceIte, true_and, and_true, not_true_eq_false, not_false_eq_true, eq_self, or_true, true_or, or_false, false_or, if_true, if_false, Int.toNat_natCast, w_ite, Nat.add_zero, reduceCtorEq, ne_eq, hm, k3, a4, b4]
      exact Iff.rfl
/-- a language's sayings go aside -/
theorem sp_197 {l h : Nat} {rs : List Rl} {z0 : Int} (hL : MLay S R m) (hl : l < 2) (hR : RsM I m l rs) (h13 : I m 13 = w h) (hh : h ≤ 1000) (h22 : I m 22 = w z0) (hz : -1 ≤ z0 ∧ z0 ≤ 1) (hd : z0 = l → LdA I m rs h)
    (hQ : ∀ I' : MI, AsF I I' m → I' m 22 = w l → LdA I' m rs h → AdA I' m rs h → Q (.inl none) (mk S I' L R G)) : XC (d + 64) 197 [.ref m, .int (w l)] (mk S I L R G) Q := by
  obtain ⟨k1, k2, k3, k4, k5, k6, -⟩ := hL.2.2.2.2.2.2.2.2.1
  have hm := hL.1
  have hr := hR.ok
  simp (disch := omega) only [q_197_0, q_197_1, q_197_2, q_197_5, q_197_6, q_197_8, q_197_9, q_197_12, q_197_13, q_197_16, q_197_17, q_197_20, q_197_21, q_197_22, q_197_25, q_197_26, q_197_27, q_197_28, q_197_31, q_197_34, q_197_35, q_197_37, q_197_38, q_197_41, q_197_44, q_197_45, q_197_48, q_197_49, q_197_50, q_197_53, q_197_54, q_197_55, q_197_56, q_197_57, q_197_60, q_197_61, q_197_62, q_197_65, q_197_66, q_197_67, q_197_68, q_197_71, q_197_74, q_197_e, va_rf_s, bz_0, bz_1, bz_ok, bb_ok, Nat.add_assoc, w_lt, w_add, w_sub, w_mul, w_div, em_def, w_eq, w_inT, ↓ilt_t, ↓ilt_f, ↓ieq_t, ↓ieq_f, ntT, w_b, w_ix, kx_v, kx_n, kl_n, kl_i, kl_r, kl_o, inA_i, inA_s, inA_b, inA_z, inA_l, inA_0, inA_4, inA_5, inA_6, inA_7, inA_8, inA_9, inA_10, al_0, al_1, al_2, al_4, al_5, al_98, bsP_2, bsP_3, wr_same, wr_wr, wr_ne, up_same, up_ne, Nat.reduceAdd, Int.reduceAdd, Int.reduceSub, Int.reduceMul, Int.reduceLT, Int.reduceLE, Int.reduceEq, Int.reduceNeg, Int.reduceToNat, Nat.reduceLT, Nat.reduceLeDiff, Nat.reduceEqDiff, ↓reduceIte, true_and, and_true, not_true_eq_false, not_false_eq_true, eq_self, or_true, true_or, or_false, false_or, if_true, if_false, Int.toNat_natCast, w_ite, Nat.add_zero, reduceCtorEq, ne_eq, hm]
  refine sp_194 hL hl hR h13 hh h22 hz hd (fun I1 hF1 e22 hA => ?_)
  have e13 : I1 m 13 = w h := by rw [hF1.2 13 (by omega)]; exact h13
  -- the numbers' places and lengths
  have lp2 : ∀ (j n : Nat) (I2 : MI), n + j = h + 1 → (∀ x, x ≠ m + 6580 → x ≠ m + 6581 → x ≠ m + 6582 → I2 x = I1 x) → (∀ j, j < 100100 → I2 (m + 6580) j = (I1 (m + 6577) j).toInt8.toInt32) → (∀ n', n' < n → I2 (m + 6581) n' = I1 (m + 6578) n' ∧ I2 (m + 6582) n' = I1 (m + 6579) n') → XX (d + 64) 197 36 [some (.ref m), some (.int (w l)), some (.int (w n))] [] (mk S I2 L R G) Q := by
    intro j
    induction j with
    | zero =>
      intro n I2 hn f1 f2 f3
      have e13' : I2 m 13 = w h := by rw [f1 _ (by omega) (by omega) (by omega)]; exact e13
      rw [q_197_36]
      simp (disch := omega) only [q_197_0, q_197_1, q_197_2, q_197_5, q_197_6, q_197_8, q_197_9, q_197_12, q_197_13, q_197_16, q_197_17, q_197_20, q_197_21, q_197_22, q_197_25, q_197_26, q_197_27, q_197_28, q_197_31, q_197_34, q_197_35, q_197_37, q_197_38, q_197_41, q_197_44, q_197_45, q_197_48, q_197_49, q_197_50, q_197_53, q_197_54, q_197_55, q_197_56, q_197_57, q_197_60, q_197_61, q_197_62, q_197_65, q_197_66, q_197_67, q_197_68, q_197_71, q_197_74, q_197_e, va_rf_s, bz_0, bz_1, bz_ok, bb_ok, Nat.add_assoc, w_lt, w_add, w_sub, w_mul, w_div, em_def, w_eq, w_inT, ↓ilt_t, ↓ilt_f, ↓ieq_t, ↓ieq_f, ntT, w_b, w_ix, kx_v, kx_n, kl_n, kl_i, kl_r, kl_o, inA_i, inA_s, inA_b, inA_z, inA_l, inA_0, inA_4, inA_5, inA_6, inA_7, inA_8, inA_9, inA_10, al_0, al_1, al_2, al_4, al_5, al_98, bsP_2, bsP_3, wr_same, wr_wr, wr_ne, up_same, up_ne, Nat.reduceAdd, Int.reduceAdd, Int.reduceSub, Int.reduceMul, Int.reduceLT, Int.reduceLE, Int.reduceEq, Int.reduceNeg, Int.reduceToNat, Nat.reduceLT, Nat.reduceLeDiff, Nat.reduceEqDiff, ↓reduceIte, true_and, and_true, not_true_eq_false, not_false_eq_true, eq_self, or_true, true_or, or_false, false_or, if_true, if_false, Int.toNat_natCast, w_ite, Nat.add_zero, reduceCtorEq, ne_eq, hm, e13']
      refine hQ I2 ⟨fun x h1 h2 => by rw [f1 x (by omega) (by omega) (by omega), hF1.1 x h1 (by omega)], fun j hj => by rw [f1 _ (by omega) (by omega) (by omega), hF1.2 j hj]⟩ (by rw [f1 _ (by omega) (by omega) (by omega)]; exact e22) (hA.keep (f1 _ (by omega) (by omega) (by omega)) (f1 _ (by omega) (by omega) (by omega)) (f1 _ (by omega) (by omega) (by omega))) (fun n' hn' => ?_)
      obtain ⟨c1, c2, c3⟩ := hA n' hn'
      obtain ⟨d1, d2⟩ := f3 n' (by omega)
      refine ⟨d1.trans c1, fun hT => d2.trans (c2 hT), fun t hT => ?_⟩
      obtain ⟨c4, c5⟩ := c3 t hT
      have hto := T_ok hr hT
      have hb2 := bgn_le hr (n' + 1)
      rw [bgn_s hT] at hb2
      refine ⟨d2.trans c4, fun i hi => ?_⟩
      have := hto.1.get hi
      rw [f2 _ (by omega), c5 i hi, w_b (by omega) (by omega)]
    | succ j ih =>
      intro n I2 hn f1 f2 f3
      have e13' : I2 m 13 = w h := by rw [f1 _ (by omega) (by omega) (by omega)]; exact e13
      have v1 : ∀ x, x ≠ m + 6581 → x ≠ m + 6582 → wr (wr I2 (m + 6581) (up (I2 (m + 6581)) n (I2 (m + 6578) n))) (m + 6582) (up (I2 (m + 6582)) n (I2 (m + 6579) n)) x = I2 x := fun x h1 h2 => by rw [wr_ne h2, wr_ne h1]
      have v2 : wr (wr I2 (m + 6581) (up (I2 (m + 6581)) n (I2 (m + 6578) n))) (m + 6582) (up (I2 (m + 6582)) n (I2 (m + 6579) n)) (m + 6581) = up (I2 (m + 6581)) n (I2 (m + 6578) n) := by rw [wr_ne (by omega), wr_same]
      have v3 : wr (wr I2 (m + 6581) (up (I2 (m + 6581)) n (I2 (m + 6578) n))) (m + 6582) (up (I2 (m + 6582)) n (I2 (m + 6579) n)) (m + 6582) = up (I2 (m + 6582)) n (I2 (m + 6579) n) := wr_same
      rw [q_197_36]
      simp (disch := omega) only [q_197_0, q_197_1, q_197_2, q_197_5, q_197_6, q_197_8, q_197_9, q_197_12, q_197_13, q_197_16, q_197_17, q_197_20, q_197_21, q_197_22, q_197_25, q_197_26, q_197_27, q_197_28, q_197_31, q_197_34, q_197_35, q_197_37, q_197_38, q_197_41, q_197_44, q_197_45, q_197_48, q_197_49, q_197_50, q_197_53, q_197_54, q_197_55, q_197_56, q_197_57, q_197_60, q_197_61, q_197_62, q_197_65, q_197_66, q_197_67, q_197_68, q_197_71, q_197_74, q_197_e, va_rf_s, bz_0, bz_1, bz_ok, bb_ok, Nat.add_assoc, w_lt, w_add, w_sub, w_mul, w_div, em_def, w_eq, w_inT, ↓ilt_t, ↓ilt_f, ↓ieq_t, ↓ieq_f, ntT, w_b, w_ix, kx_v, kx_n, kl_n, kl_i, kl_r, kl_o, inA_i, inA_s, inA_b, inA_z, inA_l, inA_0, inA_4, inA_5, inA_6, inA_7, inA_8, inA_9, inA_10, al_0, al_1, al_2, al_4, al_5, al_98, bsP_2, bsP_3, wr_same, wr_wr, wr_ne, up_same, up_ne, Nat.reduceAdd, Int.reduceAdd, Int.reduceSub, Int.reduceMul, Int.reduceLT, Int.reduceLE, Int.reduceEq, Int.reduceNeg, Int.reduceToNat, Nat.reduceLT, Nat.reduceLeDiff, Nat.reduceEqDiff, ↓reduceIte, true_and, and_true, not_true_eq_false, not_false_eq_true, eq_self, or_true, true_or, or_false, false_or, if_true, if_false, Int.toNat_natCast, w_ite, Nat.add_zero, reduceCtorEq, ne_eq, hm, e13', k2, k3, k5, k6]
      generalize wr (wr I2 (m + 6581) (up (I2 (m + 6581)) n (I2 (m + 6578) n))) (m + 6582) (up (I2 (m + 6582)) n (I2 (m + 6579) n)) = I3 at v1 v2 v3 ⊢
      have ih' := ih (n + 1) I3 (by omega) (fun x h1 h2 h3 => by rw [v1 x h2 h3, f1 x h1 h2 h3]) (fun j hj => by rw [v1 _ (by omega) (by omega)]; exact f2 j hj) (fun n' hn' => by
        by_cases c : n' = n
        · subst c
          rw [v2, v3, up_same, up_same, f1 _ (by omega) (by omega) (by omega), f1 _ (by omega) (by omega) (by omega)]
          exact ⟨rfl, rfl⟩
        · rw [v2, v3, up_ne c, up_ne c]
          exact f3 n' (by omega))
      simp only [Int.natCast_add, Int.natCast_one] at ih'
      exact ih'
  have lp1 : ∀ (j i : Nat), i + j = 100100 → XX (d + 64) 197 7 [some (.ref m), some (.int (w l)), some (.int (w i))] [] (mk S (wr I1 (m + 6580) (mix (I1 (m + 6580)) (fun j => (I1 (m + 6577) j).toInt8.toInt32) i)) L R G) Q := by
    intro j
    induction j with
    | zero =>
      intro i hi
      have : i = 100100 := by omega
      subst this
      rw [q_197_7]
      simp (disch := omega) only [q_197_0, q_197_1, q_197_2, q_197_5, q_197_6, q_197_8, q_197_9, q_197_12, q_197_13, q_197_16, q_197_17, q_197_20, q_197_21, q_197_22, q_197_25, q_197_26, q_197_27, q_197_28, q_197_31, q_197_34, q_197_35, q_197_37, q_197_38, q_197_41, q_197_44, q_197_45, q_197_48, q_197_49, q_197_50, q_197_53, q_197_54, q_197_55, q_197_56, q_197_57, q_197_60, q_197_61, q_197_62, q_197_65, q_197_66, q_197_67, q_197_68, q_197_71, q_197_74, q_197_e, va_rf_s, bz_0, bz_1, bz_ok, bb_ok, Nat.add_assoc, w_lt, w_add, w_sub, w_mul, w_div, em_def, w_eq, w_inT, ↓ilt_t, ↓ilt_f, ↓ieq_t, ↓ieq_f, ntT, w_b, w_ix, kx_v, kx_n, kl_n, kl_i, kl_r, kl_o, inA_i, inA_s, inA_b, inA_z, inA_l, inA_0, inA_4, inA_5, inA_6, inA_7, inA_8, inA_9, inA_10, al_0, al_1, al_2, al_4, al_5, al_98, bsP_2, bsP_3, wr_same, wr_wr, wr_ne, up_same, up_ne, Nat.reduceAdd, Int.reduceAdd, Int.reduceSub, Int.reduceMul, Int.reduceLT, Int.reduceLE, Int.reduceEq, Int.reduceNeg, Int.reduceToNat, Nat.reduceLT, Nat.reduceLeDiff, Nat.reduceEqDiff, ↓reduceIte, true_and, and_true, not_true_eq_false, not_false_eq_true, eq_self, or_true, true_or, or_false, false_or, if_true, if_false, Int.toNat_natCast, w_ite, Nat.add_zero, reduceCtorEq, ne_eq, hm, k4]
      refine lp2 (h + 1) 0 _ (by omega) (fun x h1 h2 h3 => wr_ne h1) (fun j hj => ?_) (fun n' hn' => by omega)
      rw [wr_same]
      unfold mix
      rw [if_pos hj]
    | succ j ih =>
      intro i hi
      have ih' := ih (i + 1) (by omega)
      rw [← mix_s (n := i)] at ih'
      simp only [Int.natCast_add, Int.natCast_one] at ih'
      rw [q_197_7]
      simp (disch := omega) only [q_197_0, q_197_1, q_197_2, q_197_5, q_197_6, q_197_8, q_197_9, q_197_12, q_197_13, q_197_16, q_197_17, q_197_20, q_197_21, q_197_22, q_197_25, q_197_26, q_197_27, q_197_28, q_197_31, q_197_34, q_197_35, q_197_37, q_197_38, q_197_41, q_197_44, q_197_45, q_197_48, q_197_49, q_197_50, q_197_53, q_197_54, q_197_55, q_197_56, q_197_57, q_197_60, q_197_61, q_197_62, q_197_65, q_197_66, q_197_67, q_197_68, q_197_71, q_197_74, q_197_e, va_rf_s, bz_0, bz_1, bz_ok, bb_ok, Nat.add_assoc, w_lt, w_add, w_sub, w_mul, w_div, em_def, w_eq, w_inT, ↓ilt_t, ↓ilt_f, ↓ieq_t, ↓ieq_f, ntT, w_b, w_ix, kx_v, kx_n, kl_n, kl_i, kl_r, kl_o, inA_i, inA_s, inA_b, inA_z, inA_l, inA_0, inA_4, inA_5, inA_6, inA_7, inA_8, inA_9, inA_10, al_0, al_1, al_2, al_4, al_5, al_98, bsP_2, bsP_3, wr_same, wr_wr, wr_ne, up_same, up_ne, Nat.reduceAdd, Int.reduceAdd, Int.reduceSub, Int.reduceMul, Int.reduceLT, Int.reduceLE, Int.reduceEq, Int.reduceNeg, Int.reduceToNat, Nat.reduceLT, Nat.reduceLeDiff, Nat.reduceEqDiff, ↓reduceIte, true_and, and_true, not_true_eq_false, not_false_eq_true, eq_self, or_true, true_or, or_false, false_or, if_true, if_false, Int.toNat_natCast, w_ite, Nat.add_zero, reduceCtorEq, ne_eq, hm, k1, k4]
      exact ih'
  have := lp1 100100 0 (by omega)
  rw [mix_0, wr_self] at this
  simp (disch := omega) only [q_197_0, q_197_1, q_197_2, q_197_5, q_197_6, q_197_8, q_197_9, q_197_12, q_197_13, q_197_16, q_197_17, q_197_20, q_197_21, q_197_22, q_197_25, q_197_26, q_197_27, q_197_28, q_197_31, q_197_34, q_197_35, q_197_37, q_197_38, q_197_41, q_197_44, q_197_45, q_197_48, q_197_49, q_197_50, q_197_53, q_197_54, q_197_55, q_197_56, q_197_57, q_197_60, q_197_61, q_197_62, q_197_65, q_197_66, q_197_67, q_197_68, q_197_71, q_197_74, q_197_e, va_rf_s, bz_0, bz_1, bz_ok, bb_ok, Nat.add_assoc, w_lt, w_add, w_sub, w_mul, w_div, em_def, w_eq, w_inT, ↓ilt_t, ↓ilt_f, ↓ieq_t, ↓ieq_f, ntT, w_b, w_ix, kx_v, kx_n, kl_n, kl_i, kl_r, kl_o, inA_i, inA_s, inA_b, inA_z, inA_l, inA_0, inA_4, inA_5, inA_6, inA_7, inA_8, inA_9, inA_10, al_0, al_1, al_2, al_4, al_5, al_98, bsP_2, bsP_3, wr_same, wr_wr, wr_ne, up_same, up_ne, Nat.reduceAdd, Int.reduceAdd, Int.reduceSub, Int.reduceMul, Int.reduceLT, Int.reduceLE, Int.reduceEq, Int.reduceNeg, Int.reduceToNat, Nat.reduceLT, Nat.reduceLeDiff, Nat.reduceEqDiff, ↓reduceIte, true_and, and_true, not_true_eq_false, not_false_eq_true, eq_self, or_true, true_or, or_false, false_or, if_true, if_false, Int.toNat_natCast, w_ite, Nat.add_zero, reduceCtorEq, ne_eq]
  exact this
/-- whether a number is said as aside -/
theorem sp_198 {rs ra : List Rl} {h n : Nat} (hL : MLay S R m) (hr : rsOk rs) (hra : rsOk ra) (hA : LdA I m rs h) (hB : AdA I m ra h) (hh : h ≤ 1000) (hn : n ≤ h) : XC d 198 [.ref m, .int (w n)] (mk S I L R G) Q ↔ Q (.inl (some (.int (bz (decide (T rs n = T ra n)))))) (mk S I L R G) := by
  obtain ⟨k1, k2, k3, k4, k5, k6, -⟩ := hL.2.2.2.2.2.2.2.2.1
  have hm := hL.1
  have eln := hA.len hn
  have ela := hB.len hn
  obtain ⟨a1, -, a3⟩ := hA n hn
  obtain ⟨b1, -, b3⟩ := hB n hn
  cases hT : T rs (n : Int) with
  | none =>
    rw [hT] at eln
    cases hU : T ra (n : Int) with
    | none =>
      rw [hU] at ela
      rw [decide_eq_true rfl]
      simp (disch := omega) only [q_198_0, q_198_1, q_198_4, q_198_5, q_198_6, q_198_7, q_198_10, q_198_11, q_198_12, q_198_15, q_198_16, q_198_17, q_198_18, q_198_20, q_198_21, q_198_24, q_198_25, q_198_26, q_198_29, q_198_30, q_198_33, q_198_34, q_198_37, q_198_38, q_198_39, q_198_40, q_198_41, q_198_42, q_198_43, q_198_46, q_198_47, q_198_50, q_198_51, q_198_52, q_198_53, q_198_54, q_198_55, q_198_58, q_198_59, q_198_60, q_198_63, q_198_66, q_198_67, q_198_e, va_rf_s, bz_0, bz_1, bz_ok, bb_ok, Nat.add_assoc, w_lt, w_add, w_sub, w_mul, w_div, em_def, w_eq, w_inT, ↓ilt_t, ↓ilt_f, ↓ieq_t, ↓ieq_f, ntT, w_b, w_ix, kx_v, kx_n, kl_n, kl_i, kl_r, kl_o, inA_i, inA_s, inA_b, inA_z, inA_l, inA_0, inA_4, inA_5, inA_6, inA_7, inA_8, inA_9, inA_10, al_0, al_1, al_2, al_4, al_5, al_98, bsP_2, bsP_3, wr_same, wr_wr, wr_ne, up_same, up_ne, Nat.reduceAdd, Int.reduceAdd, Int.reduceSub, Int.reduceMul, Int.reduceLT, Int.reduceLE, Int.reduceEq, Int.reduceNeg, Int.reduceToNat, Nat.reduceLT, Nat.reduceLeDiff, Nat.reduceEqDiff, ↓reduceIte, true_and, and_true, not_true_eq_false, not_false_eq_true, eq_self, or_true, true_or, or_false, false_or, if_true, if_false, Int.toNat_natCast, w_ite, Nat.add_zero, reduceCtorEq, ne_eq, hm, k3, k6, eln, ela]
      rw [q_198_19]
      simp (disch := omega) only [q_198_0, q_198_1, q_198_4, q_198_5, q_198_6, q_198_7, q_198_10, q_198_11, q_198_12, q_198_15, q_198_16, q_198_17, q_198_18, q_198_20, q_198_21, q_198_24, q_198_25, q_198_26, q_198_29, q_198_30, q_198_33, q_198_34, q_198_37, q_198_38, q_198_39, q_198_40, q_198_41, q_198_42, q_198_43, q_198_46, q_198_47, q_198_50, q_198_51, q_198_52, q_198_53, q_198_54, q_198_55, q_198_58, q_198_59, q_198_60, q_198_63, q_198_66, q_198_67, q_198_e, va_rf_s, bz_0, bz_1, bz_ok, bb_ok, Nat.add_assoc, w_lt, w_add, w_sub, w_mul, w_div, em_def, w_eq, w_inT, ↓ilt_t, ↓ilt_f, ↓ieq_t, ↓ieq_f, ntT, w_b, w_ix, kx_v, kx_n, kl_n, kl_i, kl_r, kl_o, inA_i, inA_s, inA_b, inA_z, inA_l, inA_0, inA_4, inA_5, inA_6, inA_7, inA_8, inA_9, inA_10, al_0, al_1, al_2, al_4, al_5, al_98, bsP_2, bsP_3, wr_same, wr_wr, wr_ne, up_same, up_ne, Nat.reduceAdd, Int.reduceAdd, Int.reduceSub, Int.reduceMul, Int.reduceLT, Int.reduceLE, Int.reduceEq, Int.reduceNeg, Int.reduceToNat, Nat.reduceLT, Nat.reduceLeDiff, Nat.reduceEqDiff, ↓reduceIte, true_and, and_true, not_true_eq_false, not_false_eq_true, eq_self, or_true, true_or, or_false, false_or, if_true, if_false, Int.toNat_natCast, w_ite, Nat.add_zero, reduceCtorEq, ne_eq, hm, k3, k6, eln, ela]
      exact Iff.rfl
    | some u =>
      have huo := T_ok hra hU
      rw [hU] at ela
      rw [decide_eq_false (by simp)]
      simp (disch := omega) only [q_198_0, q_198_1, q_198_4, q_198_5, q_198_6, q_198_7, q_198_10, q_198_11, q_198_12, q_198_15, q_198_16, q_198_17, q_198_18, q_198_20, q_198_21, q_198_24, q_198_25, q_198_26, q_198_29, q_198_30, q_198_33, q_198_34, q_198_37, q_198_38, q_198_39, q_198_40, q_198_41, q_198_42, q_198_43, q_198_46, q_198_47, q_198_50, q_198_51, q_198_52, q_198_53, q_198_54, q_198_55, q_198_58, q_198_59, q_198_60, q_198_63, q_198_66, q_198_67, q_198_e, va_rf_s, bz_0, bz_1, bz_ok, bb_ok, Nat.add_assoc, w_lt, w_add, w_sub, w_mul, w_div, em_def, w_eq, w_inT, ↓ilt_t, ↓ilt_f, ↓ieq_t, ↓ieq_f, ntT, w_b, w_ix, kx_v, kx_n, kl_n, kl_i, kl_r, kl_o, inA_i, inA_s, inA_b, inA_z, inA_l, inA_0, inA_4, inA_5, inA_6, inA_7, inA_8, inA_9, inA_10, al_0, al_1, al_2, al_4, al_5, al_98, bsP_2, bsP_3, wr_same, wr_wr, wr_ne, up_same, up_ne, Nat.reduceAdd, Int.reduceAdd, Int.reduceSub, Int.reduceMul, Int.reduceLT, Int.reduceLE, Int.reduceEq, Int.reduceNeg, Int.reduceToNat, Nat.reduceLT, Nat.reduceLeDiff, Nat.reduceEqDiff, ↓reduceIte, true_and, and_true, not_true_eq_false, not_false_eq_true, eq_self, or_true, true_or, or_false, false_or, if_true, if_false, Int.toNat_natCast, w_ite, Nat.add_zero, reduceCtorEq, ne_eq, hm, k3, k6, eln, ela]
      exact Iff.rfl
  | some t =>
    have hto := T_ok hr hT
    rw [hT] at eln
    cases hU : T ra (n : Int) with
    | none =>
      rw [hU] at ela
      rw [decide_eq_false (by simp)]
      simp (disch := omega) only [q_198_0, q_198_1, q_198_4, q_198_5, q_198_6, q_198_7, q_198_10, q_198_11, q_198_12, q_198_15, q_198_16, q_198_17, q_198_18, q_198_20, q_198_21, q_198_24, q_198_25, q_198_26, q_198_29, q_198_30, q_198_33, q_198_34, q_198_37, q_198_38, q_198_39, q_198_40, q_198_41, q_198_42, q_198_43, q_198_46, q_198_47, q_198_50, q_198_51, q_198_52, q_198_53, q_198_54, q_198_55, q_198_58, q_198_59, q_198_60, q_198_63, q_198_66, q_198_67, q_198_e, va_rf_s, bz_0, bz_1, bz_ok, bb_ok, Nat.add_assoc, w_lt, w_add, w_sub, w_mul, w_div, em_def, w_eq, w_inT, ↓ilt_t, ↓ilt_f, ↓ieq_t, ↓ieq_f, ntT, w_b, w_ix, kx_v, kx_n, kl_n, kl_i, kl_r, kl_o, inA_i, inA_s, inA_b, inA_z, inA_l, inA_0, inA_4, inA_5, inA_6, inA_7, inA_8, inA_9, inA_10, al_0, al_1, al_2, al_4, al_5, al_98, bsP_2, bsP_3, wr_same, wr_wr, wr_ne, up_same, up_ne, Nat.reduceAdd, Int.reduceAdd, Int.reduceSub, Int.reduceMul, Int.reduceLT, Int.reduceLE, Int.reduceEq, Int.reduceNeg, Int.reduceToNat, Nat.reduceLT, Nat.reduceLeDiff, Nat.reduceEqDiff, ↓reduceIte, true_and, and_true, not_true_eq_false, not_false_eq_true, eq_self, or_true, true_or, or_false, false_or, if_true, if_false, Int.toNat_natCast, w_ite, Nat.add_zero, reduceCtorEq, ne_eq, hm, k3, k6, eln, ela]
      exact Iff.rfl
    | some u =>
      have huo := T_ok hra hU
      rw [hU] at ela
      obtain ⟨-, a5⟩ := a3 t hT
      obtain ⟨-, b5⟩ := b3 u hU
      have hba := bgn_le hr (n + 1)
      have hbb := bgn_le hra (n + 1)
      rw [bgn_s hT] at hba
      rw [bgn_s hU] at hbb
      have hinj : (some t = some u) ↔ t = u := Option.some_inj
      simp only [hinj]
      by_cases cl : t.length = u.length
      · have lp : ∀ (j c : Nat), c + j = t.length → (XX d 198 19 [some (.ref m), some (.int (w n)), some (.int (w c))] [] (mk S I L R G) Q ↔ Q (.inl (some (.int (bz (decide (t.drop c = u.drop c)))))) (mk S I L R G)) := by
          intro j
          induction j with
          | zero =>
            intro c hc
            rw [List.drop_eq_nil_of_le (by omega), List.drop_eq_nil_of_le (by omega), decide_eq_true rfl, q_198_19]
            simp (disch := omega) only [q_198_0, q_198_1, q_198_4, q_198_5, q_198_6, q_198_7, q_198_10, q_198_11, q_198_12, q_198_15, q_198_16, q_198_17, q_198_18, q_198_20, q_198_21, q_198_24, q_198_25, q_198_26, q_198_29, q_198_30, q_198_33, q_198_34, q_198_37, q_198_38, q_198_39, q_198_40, q_198_41, q_198_42, q_198_43, q_198_46, q_198_47, q_198_50, q_198_51, q_198_52, q_198_53, q_198_54, q_198_55, q_198_58, q_198_59, q_198_60, q_198_63, q_198_66, q_198_67, q_198_e, va_rf_s, bz_0, bz_1, bz_ok, bb_ok, Nat.add_assoc, w_lt, w_add, w_sub, w_mul, w_div, em_def, w_eq, w_inT, ↓ilt_t, ↓ilt_f, ↓ieq_t, ↓ieq_f, ntT, w_b, w_ix, kx_v, kx_n, kl_n, kl_i, kl_r, kl_o, inA_i, inA_s, inA_b, inA_z, inA_l, inA_0, inA_4, inA_5, inA_6, inA_7, inA_8, inA_9, inA_10, al_0, al_1, al_2, al_4, al_5, al_98, bsP_2, bsP_3, wr_same, wr_wr, wr_ne, up_same, up_ne, Nat.reduceAdd, Int.reduceAdd, Int.reduceSub, Int.reduceMul, Int.reduceLT, Int.reduceLE, Int.reduceEq, Int.reduceNeg, Int.reduceToNat, Nat.reduceLT, Nat.reduceLeDiff, Nat.reduceEqDiff, ↓reduceIte, true_and, and_true, not_true_eq_false, not_false_eq_true, eq_self, or_true, true_or, or_false, false_or, if_true, if_false, Int.toNat_natCast, w_ite, Nat.add_zero, reduceCtorEq, ne_eq, hm, k3, eln]
            exact Iff.rfl
          | succ j ih =>
            intro c hc
            have h1 : c < t.length := by omega
            have h2 : c < u.length := by omega
            have ih' := ih (c + 1) (by omega)
            simp only [Int.natCast_add, Int.natCast_one] at ih'
            have ea := a5 c h1
            have eb := b5 c h2
            have g1 := hto.1.get h1
            have g2 := huo.1.get h2
            have e6 : ((bgn rs n : Int) + c).toNat = bgn rs n + c := by omega
            have e7 : ((bgn ra n : Int) + c).toNat = bgn ra n + c := by omega
            rw [drop_cons h1, drop_cons h2, q_198_19]
            by_cases c0 : t.getD c 0 = u.getD c 0
            · have : (t.getD c 0 :: t.drop (c + 1) = u.getD c 0 :: u.drop (c + 1)) ↔ t.drop (c + 1) = u.drop (c + 1) := by
                rw [c0]; exact ⟨fun h => (List.cons.inj h).2, fun h => by rw [h]⟩
              simp only [this]
              simp (disch := omega) only [q_198_0, q_198_1, q_198_4, q_198_5, q_198_6, q_198_7, q_198_10, q_198_11, q_198_12, q_198_15, q_198_16, q_198_17, q_198_18, q_198_20, q_198_21, q_198_24, q_198_25, q_198_26, q_198_29, q_198_30, q_198_33, q_198_34, q_198_37, q_198_38, q_198_39, q_198_40, q_198_41, q_198_42, q_198_43, q_198_46, q_198_47, q_198_50, q_198_51, q_198_52, q_198_53, q_198_54, q_198_55, q_198_58, q_198_59, q_198_60, q_198_63, q_198_66, q_198_67, q_198_e, va_rf_s, bz_0, bz_1, bz_ok, bb_ok, Nat.add_assoc, w_lt, w_add, w_sub, w_mul, w_div, em_def, w_eq, w_inT, ↓ilt_t, ↓ilt_f, ↓ieq_t, ↓ieq_f, ntT, w_b, w_ix, kx_v, kx_n, kl_n, kl_i, kl_r, kl_o, inA_i, inA_s, inA_b, inA_z, inA_l, inA_0, inA_4, inA_5, inA_6, inA_7, inA_8, inA_9, inA_10, al_0, al_1, al_2, al_4, al_5, al_98, bsP_2, bsP_3, wr_same, wr_wr, wr_ne, up_same, up_ne, Nat.reduceAdd, Int.reduceAdd, Int.reduceSub, Int.reduceMul, Int.reduceLT, Int.reduceLE, Int.reduceEq, Int.reduceNeg, Int.reduceToNat, Nat.reduceLT, Nat.reduceLeDiff, Nat.reduceEqDiff, ↓reduceIte, true_and, and_true, not_true_eq_false, not_false_eq_true, eq_self, or_true, true_or, or_false, false_or, if_true, if_false, Int.toNat_natCast, w_ite, Nat.add_zero, reduceCtorEq, ne_eq, hm, k1, k2, k3, k4, k5, eln, a1, b1, e6, e7, ea, eb]
              exact ih'
            · rw [decide_eq_false (fun h => c0 (List.cons.inj h).1)]
              simp (disch := omega) only [q_198_0, q_198_1, q_198_4, q_198_5, q_198_6, q_198_7, q_198_10, q_198_11, q_198_12, q_198_15, q_198_16, q_198_17, q_198_18, q_198_20, q_198_21, q_198_24, q_198_25, q_198_26, q_198_29, q_198_30, q_198_33, q_198_34, q_198_37, q_198_38, q_198_39, q_198_40, q_198_41, q_198_42, q_198_43, q_198_46, q_198_47, q_198_50, q_198_51, q_198_52, q_198_53, q_198_54, q_198_55, q_198_58, q_198_59, q_198_60, q_198_63, q_198_66, q_198_67, q_198_e, va_rf_s, bz_0, bz_1, bz_ok, bb_ok, Nat.add_assoc, w_lt, w_add, w_sub, w_mul, w_div, em_def, w_eq, w_inT, ↓ilt_t, ↓ilt_f, ↓ieq_t, ↓ieq_f, ntT, w_b, w_ix, kx_v, kx_n, kl_n, kl_i, kl_r, kl_o, inA_i, inA_s, inA_b, inA_z, inA_l, inA_0, inA_4, inA_5, inA_6, inA_7, inA_8, inA_9, inA_10, al_0, al_1, al_2, al_4, al_5, al_98, bsP_2, bsP_3, wr_same, wr_wr, wr_ne, up_same, up_ne, Nat.reduceAdd, Int.reduceAdd, Int.reduceSub, Int.reduceMul, Int.reduceLT, Int.reduceLE, Int.reduceEq, Int.reduceNeg, Int.reduceToNat, Nat.reduceLT, Nat.reduceLeDiff, Nat.reduceEqDiff, ↓reduceIte, true_and, and_true, not_true_eq_false, not_false_eq_true, eq_self, or_true, true_or, or_false, false_or, if_true, if_false, Int.toNat_natCast, w_ite, Nat.add_zero, reduceCtorEq, ne_eq, hm, k1, k2, k3, k4, k5, eln, a1, b1, e6, e7, ea, eb]
              exact Iff.rfl
        have := lp t.length 0 (by omega)
        simp only [List.drop_zero, Int.natCast_zero] at this
        simp (disch := omega) only [q_198_0, q_198_1, q_198_4, q_198_5, q_198_6, q_198_7, q_198_10, q_198_11, q_198_12, q_198_15, q_198_16, q_198_17, q_198_18, q_198_20, q_198_21, q_198_24, q_198_25, q_198_26, q_198_29, q_198_30, q_198_33, q_198_34, q_198_37, q_198_38, q_198_39, q_198_40, q_198_41, q_198_42, q_198_43, q_198_46, q_198_47, q_198_50, q_198_51, q_198_52, q_198_53, q_198_54, q_198_55, q_198_58, q_198_59, q_198_60, q_198_63, q_198_66, q_198_67, q_198_e, va_rf_s, bz_0, bz_1, bz_ok, bb_ok, Nat.add_assoc, w_lt, w_add, w_sub, w_mul, w_div, em_def, w_eq, w_inT, ↓ilt_t, ↓ilt_f, ↓ieq_t, ↓ieq_f, ntT, w_b, w_ix, kx_v, kx_n, kl_n, kl_i, kl_r, kl_o, inA_i, inA_s, inA_b, inA_z, inA_l, inA_0, inA_4, inA_5, inA_6, inA_7, inA_8, inA_9, inA_10, al_0, al_1, al_2, al_4, al_5, al_98, bsP_2, bsP_3, wr_same, wr_wr, wr_ne, up_same, up_ne, Nat.reduceAdd, Int.reduceAdd, Int.reduceSub, Int.reduceMul, Int.reduceLT, Int.reduceLE, Int.reduceEq, Int.reduceNeg, Int.reduceToNat, Nat.reduceLT, Nat.reduceLeDiff, Nat.reduceEqDiff, ↓reduceIte, true_and, and_true, not_true_eq_false, not_false_eq_true, eq_self, or_true, true_or, or_false, false_or, if_true, if_false, Int.toNat_natCast, w_ite, Nat.add_zero, reduceCtorEq, ne_eq, hm, k3, k6, eln, ela]
        exact this
      · rw [decide_eq_false (fun h => cl (by rw [h]))]
        simp (disch := omega) only [q_198_0, q_198_1, q_198_4, q_198_5, q_198_6, q_198_7, q_198_10, q_198_11, q_198_12, q_198_15, q_198_16, q_198_17, q_198_18, q_198_20, q_198_21, q_198_24, q_198_25, q_198_26, q_198_29, q_198_30, q_198_33, q_198_34, q_198_37, q_198_38, q_198_39, q_198_40, q_198_41, q_198_42, q_198_43, q_198_46, q_198_47, q_198_50, q_198_51, q_198_52, q_198_53, q_198_54, q_198_55, q_198_58, q_198_59, q_198_60, q_198_63, q_198_66, q_198_67, q_198_e, va_rf_s, bz_0, bz_1, bz_ok, bb_ok, Nat.add_assoc, w_lt, w_add, w_sub, w_mul, w_div, em_def, w_eq, w_inT, ↓ilt_t, ↓ilt_f, ↓ieq_t, ↓ieq_f, ntT, w_b, w_ix, kx_v, kx_n, kl_n, kl_i, kl_r, kl_o, inA_i, inA_s, inA_b, inA_z, inA_l, inA_0, inA_4, inA_5, inA_6, inA_7, inA_8, inA_9, inA_10, al_0, al_1, al_2, al_4, al_5, al_98, bsP_2, bsP_3, wr_same, wr_wr, wr_ne, up_same, up_ne, Nat.reduceAdd, Int.reduceAdd, Int.reduceSub, Int.reduceMul, Int.reduceLT, Int.reduceLE, Int.reduceEq, Int.reduceNeg, Int.reduceToNat, Nat.reduceLT, Nat.reduceLeDiff, Nat.reduceEqDiff, ↓reduceIte, true_and, and_true, not_true_eq_false, not_false_eq_true, eq_self, or_true, true_or, or_false, false_or, if_true, if_false, Int.toNat_natCast, w_ite, Nat.add_zero, reduceCtorEq, ne_eq, hm, k3, k6, eln, ela]
        exact Iff.rfl
theorem sp_199 {rs ra : List Rl} {h : Nat} (hL : MLay S R m) (hr : rsOk rs) (hra : rsOk ra) (hA : LdA I m rs h) (hB : AdA I m ra h) (h13 : I m 13 = w h) (hh : h ≤ 1000) : XC (d + 1) 199 [.ref m] (mk S I L R G) Q ↔ Q (.inl (some (.int (w (cnt (fun n => !decide (T rs n = T ra n)) (h + 1)))))) (mk S I L R G) := by
  have hm := hL.1
  have lp : ∀ (j n : Nat), n + j = h + 1 → (XX (d + 1) 199 4 [some (.ref m), some (.int (w (cnt (fun n => !decide (T rs n = T ra n)) n))), some (.int (w n))] [] (mk S I L R G) Q ↔ Q (.inl (some (.int (w (cnt (fun n => !decide (T rs n = T ra n)) (h + 1)))))) (mk S I L R G)) := by
    intro j
    induction j with
    | zero =>
      intro n hn
      have : n = h + 1 := by omega
      subst this
      rw [q_199_4]
      simp (disch := omega) only [q_199_0, q_199_1, q_199_2, q_199_3, q_199_5, q_199_6, q_199_9, q_199_12, q_199_13, q_199_14, q_199_15, q_199_18, q_199_21, q_199_22, q_199_25, q_199_26, q_199_27, q_199_28, q_199_31, q_199_34, q_199_35, q_199_e, va_rf_s, bz_0, bz_1, bz_ok, bb_ok, Nat.add_assoc, w_lt, w_add, w_sub, w_mul, w_div, em_def, w_eq, w_inT, ↓ilt_t, ↓ilt_f, ↓ieq_t, ↓ieq_f, ntT, w_b, w_ix, kx_v, kx_n, kl_n, kl_i, kl_r, kl_o, inA_i, inA_s, inA_b, inA_z, inA_l, inA_0, inA_4, inA_5, inA_6, inA_7, inA_8, inA_9, inA_10, al_0, al_1, al_2, al_4, al_5, al_98, bsP_2, bsP_3, wr_same, wr_wr, wr_ne, up_same, up_ne, Nat.reduceAdd, Int.reduceAdd, Int.reduceSub, Int.reduceMul, Int.reduceLT, Int.reduceLE, Int.reduceEq, Int.reduceNeg, Int.reduceToNat, Nat.reduceLT, Nat.reduceLeDiff, Nat.reduceEqDiff, ↓reduceIte, true_and, and_true, not_true_eq_false, not_false_eq_true, eq_self, or_true, true_or, or_false, false_or, if_true, if_false, Int.toNat_natCast, w_ite, Nat.add_zero, reduceCtorEq, ne_eq, hm, h13]
    | succ j ih =>
      intro n hn
      have hcn := cnt_le (fun n => !decide (T rs n = T ra n)) n
      have s198 := fun {d : Nat} {Q : XO → Hp → Prop} => sp_198 (d := d) (Q := Q) (L := L) (G := G) hL hr hra hA hB hh (show n ≤ h by omega)
      have i1 := ih (n + 1) (by omega)
      rw [q_199_4]
      by_cases c : T rs (n : Int) = T ra (n : Int)
      · rw [decide_eq_true c] at s198
        rw [cnt_s (b := false) (by rw [decide_eq_true c]; rfl)] at i1
        simp only [Int.natCast_add, Int.natCast_one, Bool.false_eq_true, if_false, Nat.add_zero] at i1
        simp (disch := omega) only [q_199_0, q_199_1, q_199_2, q_199_3, q_199_5, q_199_6, q_199_9, q_199_12, q_199_13, q_199_14, q_199_15, q_199_18, q_199_21, q_199_22, q_199_25, q_199_26, q_199_27, q_199_28, q_199_31, q_199_34, q_199_35, q_199_e, va_rf_s, bz_0, bz_1, bz_ok, bb_ok, Nat.add_assoc, w_lt, w_add, w_sub, w_mul, w_div, em_def, w_eq, w_inT, ↓ilt_t, ↓ilt_f, ↓ieq_t, ↓ieq_f, ntT, w_b, w_ix, kx_v, kx_n, kl_n, kl_i, kl_r, kl_o, inA_i, inA_s, inA_b, inA_z, inA_l, inA_0, inA_4, inA_5, inA_6, inA_7, inA_8, inA_9, inA_10, al_0, al_1, al_2, al_4, al_5, al_98, bsP_2, bsP_3, wr_same, wr_wr, wr_ne, up_same, up_ne, Nat.reduceAdd, Int.reduceAdd, Int.reduceSub, Int.reduceMul, Int.reduceLT, Int.reduceLE, Int.reduceEq, Int.reduceNeg, Int.reduceToNat, Nat.reduceLT, Nat.reduceLeDiff, Nat.reduceEqDiff, ↓reduceIte, true_and, and_true, not_true_eq_false, not_false_eq_true, eq_self, or_true, true_or, or_false, false_or, if_true, if_false, Int.toNat_natCast, w_ite, Nat.add_zero, reduceCtorEq, ne_eq, hm, h13, s198, Int.add_zero]
        exact i1
      · rw [decide_eq_false c] at s198
        rw [cnt_s (b := true) (by rw [decide_eq_false c]; rfl)] at i1
        simp only [Int.natCast_add, Int.natCast_one, if_true] at i1
        simp (disch := omega) only [q_199_0, q_199_1, q_199_2, q_199_3, q_199_5, q_199_6, q_199_9, q_199_12, q_199_13, q_199_14, q_199_15, q_199_18, q_199_21, q_199_22, q_199_25, q_199_26, q_199_27, q_199_28, q_199_31, q_199_34, q_199_35, q_199_e, va_rf_s, bz_0, bz_1, bz_ok, bb_ok, Nat.add_assoc, w_lt, w_add, w_sub, w_mul, w_div, em_def, w_eq, w_inT, ↓ilt_t, ↓ilt_f, ↓ieq_t, ↓ieq_f, ntT, w_b, w_ix, kx_v, kx_n, kl_n, kl_i, kl_r, kl_o, inA_i, inA_s, inA_b, inA_z, inA_l, inA_0, inA_4, inA_5, inA_6, inA_7, inA_8, inA_9, inA_10, al_0, al_1, al_2, al_4, al_5, al_98, bsP_2, bsP_3, wr_same, wr_wr, wr_ne, up_same, up_ne, Nat.reduceAdd, Int.reduceAdd, Int.reduceSub, Int.reduceMul, Int.reduceLT, Int.reduceLE, Int.reduceEq, Int.reduceNeg, Int.reduceToNat, Nat.reduceLT, Nat.reduceLeDiff, Nat.reduceEqDiff, ↓reduceIte, true_and, and_true, not_true_eq_false, not_false_eq_true, eq_self, or_true, true_or, or_false, false_or, if_true, if_false, Int.toNat_natCast, w_ite, Nat.add_zero, reduceCtorEq, ne_eq, hm, h13, s198]
        exact i1
  have := lp (h + 1) 0 (by omega)
  simp only [cnt, Int.natCast_zero] at this
  simp (disch := omega) only [q_199_0, q_199_1, q_199_2, q_199_3, q_199_5, q_199_6, q_199_9, q_199_12, q_199_13, q_199_14, q_199_15, q_199_18, q_199_21, q_199_22, q_199_25, q_199_26, q_199_27, q_199_28, q_199_31, q_199_34, q_199_35, q_199_e, va_rf_s, bz_0, bz_1, bz_ok, bb_ok, Nat.add_assoc, w_lt, w_add, w_sub, w_mul, w_div, em_def, w_eq, w_inT, ↓ilt_t, ↓ilt_f, ↓ieq_t, ↓ieq_f, ntT, w_b, w_ix, kx_v, kx_n, kl_n, kl_i, kl_r, kl_o, inA_i, inA_s, inA_b, inA_z, inA_l, inA_0, inA_4, inA_5, inA_6, inA_7, inA_8, inA_9, inA_10, al_0, al_1, al_2, al_4, al_5, al_98, bsP_2, bsP_3, wr_same, wr_wr, wr_ne, up_same, up_ne, Nat.reduceAdd, Int.reduceAdd, Int.reduceSub, Int.reduceMul, Int.reduceLT, Int.reduceLE, Int.reduceEq, Int.reduceNeg, Int.reduceToNat, Nat.reduceLT, Nat.reduceLeDiff, Nat.reduceEqDiff, ↓reduceIte, true_and, and_true, not_true_eq_false, not_false_eq_true, eq_self, or_true, true_or, or_false, false_or, if_true, if_false, Int.toNat_natCast, w_ite, Nat.add_zero, reduceCtorEq, ne_eq]
  exact this
end

/-! the model sorts: numbers by what is said of them, words by their letters -/
section
variable {d : Nat} {Q : XO → Hp → Prop} {S : SH} {I : MI} {L : ML} {R : MR} {G : MG} {A : Hp}
variable {m : Nat}
theorem sp_214 {tx : Nat → List Int} {Dm : Nat → Prop} {N : Nat} (hm : S m = some (.inr 12)) (hS1 : S (m + 6583) = some (.inl (0, N))) (hS2 : S (m + 6584) = some (.inl (0, N))) (hN : N ≤ 60000) (hD : ∀ a, Dm a → a < 60000) (hlx : ∀ a b, Dm a → Dm b → -2000 ≤ lexc (tx a) (tx b) ∧ lexc (tx a) (tx b) ≤ 2000) (hcmp : ∀ (I' : MI) (a b : Nat), (∀ x, x ≠ m + 6583 → x ≠ m + 6584 → I' x = I x) → Dm a → Dm b → ∀ (d : Nat) (Q : XO → Hp → Prop), XC (d + 1) 195 [.ref m, .int (w a), .int (w b)] (mk S I' L R G) Q ↔ Q (.inl (some (.int (w (lexc (tx a) (tx b)))))) (mk S I' L R G)) :
    ∀ (f : Nat) (xs : List Nat) (fr e0 : Nat) (I0 : MI) (Q : XO → Hp → Prop), f ≤ e0 → xs.length ≤ 2 ^ f → (∀ n ∈ xs, Dm n) → xs.Pairwise (· < ·) → fr + xs.length ≤ N → (∀ x, x ≠ m + 6583 → x ≠ m + 6584 → I0 x = I x) → Txt (I0 (m + 6583)) fr (zl xs) →
      (∀ (I' : MI) (ys : List Nat), (∀ x, x ≠ m + 6583 → x ≠ m + 6584 → I' x = I x) → ys.Pairwise (klt tx) → (∀ z, z ∈ ys ↔ z ∈ xs) → ys.length = xs.length → Txt (I' (m + 6583)) fr (zl ys) → (∀ j, (j < fr ∨ fr + xs.length ≤ j) → I' (m + 6583) j = I0 (m + 6583) j) → Q (.inl none) (mk S I' L R G)) →
      XC (e0 + 2) 214 [.ref m, .int (w fr), .int (w (fr + xs.length : Nat))] (mk S I0 L R G) Q := by
  intro f
  induction f with
  | zero =>
    intro xs fr e0 I0 Q hf hlen hdm hs hfr h0 hT hQ
    have hlen' : xs.length ≤ 1 := by simpa using hlen
    have h1 : xs.Pairwise (klt tx) := by
      match xs, hlen' with
      | [], _ => exact List.Pairwise.nil
      | [x], _ => exact List.pairwise_singleton _ _
    rw [q_214_e]
    simp (disch := omega) only [q_214_0, q_214_1, q_214_2, q_214_3, q_214_4, q_214_7, q_214_8, q_214_9, q_214_10, q_214_11, q_214_12, q_214_13, q_214_14, q_214_15, q_214_17, q_214_18, q_214_20, q_214_21, q_214_22, q_214_23, q_214_26, q_214_27, q_214_28, q_214_29, q_214_32, q_214_33, q_214_37, q_214_38, q_214_41, q_214_43, q_214_44, q_214_47, q_214_49, q_214_50, q_214_53, q_214_54, q_214_55, q_214_58, q_214_60, q_214_61, q_214_62, q_214_65, q_214_67, q_214_68, q_214_71, q_214_74, q_214_75, q_214_78, q_214_81, q_214_82, q_214_85, q_214_87, q_214_89, q_214_92, q_214_93, q_214_96, q_214_98, q_214_99, q_214_102, q_214_103, q_214_106, q_214_108, q_214_109, q_214_110, q_214_112, q_214_115, q_214_118, q_214_121, q_214_124, q_214_127, q_214_130, q_214_131, q_214_135, q_214_136, q_214_139, q_214_140, q_214_143, q_214_145, q_214_146, q_214_149, q_214_151, q_214_152, q_214_153, q_214_156, q_214_159, va_rf_s, bz_0, bz_1, bz_ok, bb_ok, Nat.add_assoc, w_lt, w_add, w_sub, w_mul, w_div, em_def, w_eq, w_inT, ↓ilt_t, ↓ilt_f, ↓ieq_t, ↓ieq_f, ntT, w_b, w_ix, kx_v, kx_n, kl_n, kl_i, kl_r, kl_o, inA_i, inA_s, inA_b, inA_z, inA_l, inA_0, inA_4, inA_5, inA_6, inA_7, inA_8, inA_9, inA_10, al_0, al_1, al_2, al_4, al_5, al_98, bsP_2, bsP_3, wr_same, wr_wr, wr_ne, up_same, up_ne, Nat.reduceAdd, Int.reduceAdd, Int.reduceSub, Int.reduceMul, Int.reduceLT, Int.reduceLE, Int.reduceEq, Int.reduceNeg, Int.reduceToNat, Nat.reduceLT, Nat.reduceLeDiff, Nat.reduceEqDiff, ↓reduceIte, true_and, and_true, not_true_eq_false, not_false_eq_true, eq_self, or_true, true_or, or_false, false_or, if_true, if_false, Int.toNat_natCast, w_ite, Nat.add_zero, reduceCtorEq, ne_eq]
    exact hQ I0 xs h0 h1 (fun z => Iff.rfl) rfl hT (fun j _ => rfl)
  | succ f ih =>
    intro xs fr e0 I0 Q hf hlen hdm hs hfr h0 hT hQ
    by_cases c2 : xs.length < 2
    · have h1 : xs.Pairwise (klt tx) := by
        match xs, c2 with
        | [], _ => exact List.Pairwise.nil
        | [x], _ => exact List.pairwise_singleton _ _
      rw [q_214_e]
      simp (disch := omega) only [q_214_0, q_214_1, q_214_2, q_214_3, q_214_4, q_214_7, q_214_8, q_214_9, q_214_10, q_214_11, q_214_12, q_214_13, q_214_14, q_214_15, q_214_17, q_214_18, q_214_20, q_214_21, q_214_22, q_214_23, q_214_26, q_214_27, q_214_28, q_214_29, q_214_32, q_214_33, q_214_37, q_214_38, q_214_41, q_214_43, q_214_44, q_214_47, q_214_49, q_214_50, q_214_53, q_214_54, q_214_55, q_214_58, q_214_60, q_214_61, q_214_62, q_214_65, q_214_67, q_214_68, q_214_71, q_214_74, q_214_75, q_214_78, q_214_81, q_214_82, q_214_85, q_214_87, q_214_89, q_214_92, q_214_93, q_214_96, q_214_98, q_214_99, q_214_102, q_214_103, q_214_106, q_214_108, q_214_109, q_214_110, q_214_112, q_214_115, q_214_118, q_214_121, q_214_124, q_214_127, q_214_130, q_214_131, q_214_135, q_214_136, q_214_139, q_214_140, q_214_143, q_214_145, q_214_146, q_214_149, q_214_151, q_214_152, q_214_153, q_214_156, q_214_159, va_rf_s, bz_0, bz_1, bz_ok, bb_ok, Nat.add_assoc, w_lt, w_add, w_sub, w_mul, w_div, em_def, w_eq, w_inT, ↓ilt_t, ↓ilt_f, ↓ieq_t, ↓ieq_f, ntT, w_b, w_ix, kx_v, kx_n, kl_n, kl_i, kl_r, kl_o, inA_i, inA_s, inA_b, inA_z, inA_l, inA_0, inA_4, inA_5, inA_6, inA_7, inA_8, inA_9, inA_10, al_0, al_1, al_2, al_4, al_5, al_98, bsP_2, bsP_3, wr_same, wr_wr, wr_ne, up_same, up_ne, Nat.reduceAdd, Int.reduceAdd, Int.reduceSub, Int.reduceMul, Int.reduceLT, Int.reduceLE, Int.reduceEq, Int.reduceNeg, Int.reduceToNat, Nat.reduceLT, Nat.reduceLeDiff, Nat.reduceEqDiff, ↓reduceIte, true_and, and_true, not_true_eq_false, not_false_eq_true, eq_self, or_true, true_or, or_false, false_or, if_true, if_false, Int.toNat_natCast, w_ite, Nat.add_zero, reduceCtorEq, ne_eq]
      exact hQ I0 xs h0 h1 (fun z => Iff.rfl) rfl hT (fun j _ => rfl)
    · obtain ⟨e1', rfl⟩ : ∃ e1', e0 = e1' + 1 := ⟨e0 - 1, by omega⟩
      obtain ⟨mid, hmid⟩ : ∃ mid, mid = fr + xs.length / 2 := ⟨_, rfl⟩
      have emid : ((fr : Int) + (fr + xs.length : Nat)) / 2 = mid := by omega
      have hl1 : (xs.take (xs.length / 2)).length = xs.length / 2 := by rw [List.length_take]; omega
      have hl2 : (xs.drop (xs.length / 2)).length = xs.length - xs.length / 2 := by rw [List.length_drop]
      have hp2 : 2 ^ (f + 1) = 2 * 2 ^ f := by rw [Nat.pow_succ, Nat.mul_comm]
      have et1 : fr + (xs.take (xs.length / 2)).length = mid := by omega
      have et2 : mid + (xs.drop (xs.length / 2)).length = fr + xs.length := by omega
      have hT1 : Txt (I0 (m + 6583)) fr (zl (xs.take (xs.length / 2))) := by
        have := hT.take (xs.length / 2)
        rw [show (zl xs).take (xs.length / 2) = zl (xs.take (xs.length / 2)) by unfold zl; rw [List.map_take]] at this
        exact this
      have hT2 : Txt (I0 (m + 6583)) mid (zl (xs.drop (xs.length / 2))) := by
        have := hT.drop (xs.length / 2)
        rw [show (zl xs).drop (xs.length / 2) = zl (xs.drop (xs.length / 2)) by unfold zl; rw [List.map_drop], ← hmid] at this
        exact this
      have ht1 : (xs.take (xs.length / 2)).Pairwise (· < ·) := hs.sublist (List.take_sublist _ _)
      have ht2 : (xs.drop (xs.length / 2)).Pairwise (· < ·) := hs.sublist (List.drop_sublist _ _)
      have hcross : ∀ x ∈ xs.take (xs.length / 2), ∀ y ∈ xs.drop (xs.length / 2), x < y := by
        have h := hs
        rw [← List.take_append_drop (xs.length / 2) xs, List.pairwise_append] at h
        exact h.2.2
      rw [q_214_e]
      simp (disch := omega) only [q_214_0, q_214_1, q_214_2, q_214_3, q_214_4, q_214_7, q_214_8, q_214_9, q_214_10, q_214_11, q_214_12, q_214_13, q_214_14, q_214_15, q_214_17, q_214_18, q_214_20, q_214_21, q_214_22, q_214_23, q_214_26, q_214_27, q_214_28, q_214_29, q_214_32, q_214_33, q_214_37, q_214_38, q_214_41, q_214_43, q_214_44, q_214_47, q_214_49, q_214_50, q_214_53, q_214_54, q_214_55, q_214_58, q_214_60, q_214_61, q_214_62, q_214_65, q_214_67, q_214_68, q_214_71, q_214_74, q_214_75, q_214_78, q_214_81, q_214_82, q_214_85, q_214_87, q_214_89, q_214_92, q_214_93, q_214_96, q_214_98, q_214_99, q_214_102, q_214_103, q_214_106, q_214_108, q_214_109, q_214_110, q_214_112, q_214_115, q_214_118, q_214_121, q_214_124, q_214_127, q_214_130, q_214_131, q_214_135, q_214_136, q_214_139, q_214_140, q_214_143, q_214_145, q_214_146, q_214_149, q_214_151, q_214_152, q_214_153, q_214_156, q_214_159, va_rf_s, bz_0, bz_1, bz_ok, bb_ok, Nat.add_assoc, w_lt, w_add, w_sub, w_mul, w_div, em_def, w_eq, w_inT, ↓ilt_t, ↓ilt_f, ↓ieq_t, ↓ieq_f, ntT, w_b, w_ix, kx_v, kx_n, kl_n, kl_i, kl_r, kl_o, inA_i, inA_s, inA_b, inA_z, inA_l, inA_0, inA_4, inA_5, inA_6, inA_7, inA_8, inA_9, inA_10, al_0, al_1, al_2, al_4, al_5, al_98, bsP_2, bsP_3, wr_same, wr_wr, wr_ne, up_same, up_ne, Nat.reduceAdd, Int.reduceAdd, Int.reduceSub, Int.reduceMul, Int.reduceLT, Int.reduceLE, Int.reduceEq, Int.reduceNeg, Int.reduceToNat, Nat.reduceLT, Nat.reduceLeDiff, Nat.reduceEqDiff, ↓reduceIte, true_and, and_true, not_true_eq_false, not_false_eq_true, eq_self, or_true, true_or, or_false, false_or, if_true, if_false, Int.toNat_natCast, w_ite, Nat.add_zero, reduceCtorEq, ne_eq, emid, hm]
      have ih1 := fun Q => ih (xs.take (xs.length / 2)) fr e1' I0 Q (by omega) (by omega) (fun n hn => hdm n (List.mem_of_mem_take hn)) ht1 (by omega) h0 hT1
      rw [et1] at ih1
      refine ih1 _ (fun I1 ys1 f1 p1 m1 l1 t1 o1 => ?_)
      simp (disch := omega) only [q_214_0, q_214_1, q_214_2, q_214_3, q_214_4, q_214_7, q_214_8, q_214_9, q_214_10, q_214_11, q_214_12, q_214_13, q_214_14, q_214_15, q_214_17, q_214_18, q_214_20, q_214_21, q_214_22, q_214_23, q_214_26, q_214_27, q_214_28, q_214_29, q_214_32, q_214_33, q_214_37, q_214_38, q_214_41, q_214_43, q_214_44, q_214_47, q_214_49, q_214_50, q_214_53, q_214_54, q_214_55, q_214_58, q_214_60, q_214_61, q_214_62, q_214_65, q_214_67, q_214_68, q_214_71, q_214_74, q_214_75, q_214_78, q_214_81, q_214_82, q_214_85, q_214_87, q_214_89, q_214_92, q_214_93, q_214_96, q_214_98, q_214_99, q_214_102, q_214_103, q_214_106, q_214_108, q_214_109, q_214_110, q_214_112, q_214_115, q_214_118, q_214_121, q_214_124, q_214_127, q_214_130, q_214_131, q_214_135, q_214_136, q_214_139, q_214_140, q_214_143, q_214_145, q_214_146, q_214_149, q_214_151, q_214_152, q_214_153, q_214_156, q_214_159, va_rf_s, bz_0, bz_1, bz_ok, bb_ok, Nat.add_assoc, w_lt, w_add, w_sub, w_mul, w_div, em_def, w_eq, w_inT, ↓ilt_t, ↓ilt_f, ↓ieq_t, ↓ieq_f, ntT, w_b, w_ix, kx_v, kx_n, kl_n, kl_i, kl_r, kl_o, inA_i, inA_s, inA_b, inA_z, inA_l, inA_0, inA_4, inA_5, inA_6, inA_7, inA_8, inA_9, inA_10, al_0, al_1, al_2, al_4, al_5, al_98, bsP_2, bsP_3, wr_same, wr_wr, wr_ne, up_same, up_ne, Nat.reduceAdd, Int.reduceAdd, Int.reduceSub, Int.reduceMul, Int.reduceLT, Int.reduceLE, Int.reduceEq, Int.reduceNeg, Int.reduceToNat, Nat.reduceLT, Nat.reduceLeDiff, Nat.reduceEqDiff, ↓reduceIte, true_and, and_true, not_true_eq_false, not_false_eq_true, eq_self, or_true, true_or, or_false, false_or, if_true, if_false, Int.toNat_natCast, w_ite, Nat.add_zero, reduceCtorEq, ne_eq, hm]
      have ih2 := fun Q => ih (xs.drop (xs.length / 2)) mid e1' I1 Q (by omega) (by omega) (fun n hn => hdm n (List.mem_of_mem_drop hn)) ht2 (by omega) f1 (Txt_congr hT2 (fun j j1 j2 => o1 j (Or.inr (by omega))))
      rw [et2] at ih2
      refine ih2 _ (fun I2 ys2 f2 p2 m2 l2 t2 o2 => ?_)
      simp (disch := omega) only [q_214_0, q_214_1, q_214_2, q_214_3, q_214_4, q_214_7, q_214_8, q_214_9, q_214_10, q_214_11, q_214_12, q_214_13, q_214_14, q_214_15, q_214_17, q_214_18, q_214_20, q_214_21, q_214_22, q_214_23, q_214_26, q_214_27, q_214_28, q_214_29, q_214_32, q_214_33, q_214_37, q_214_38, q_214_41, q_214_43, q_214_44, q_214_47, q_214_49, q_214_50, q_214_53, q_214_54, q_214_55, q_214_58, q_214_60, q_214_61, q_214_62, q_214_65, q_214_67, q_214_68, q_214_71, q_214_74, q_214_75, q_214_78, q_214_81, q_214_82, q_214_85, q_214_87, q_214_89, q_214_92, q_214_93, q_214_96, q_214_98, q_214_99, q_214_102, q_214_103, q_214_106, q_214_108, q_214_109, q_214_110, q_214_112, q_214_115, q_214_118, q_214_121, q_214_124, q_214_127, q_214_130, q_214_131, q_214_135, q_214_136, q_214_139, q_214_140, q_214_143, q_214_145, q_214_146, q_214_149, q_214_151, q_214_152, q_214_153, q_214_156, q_214_159, va_rf_s, bz_0, bz_1, bz_ok, bb_ok, Nat.add_assoc, w_lt, w_add, w_sub, w_mul, w_div, em_def, w_eq, w_inT, ↓ilt_t, ↓ilt_f, ↓ieq_t, ↓ieq_f, ntT, w_b, w_ix, kx_v, kx_n, kl_n, kl_i, kl_r, kl_o, inA_i, inA_s, inA_b, inA_z, inA_l, inA_0, inA_4, inA_5, inA_6, inA_7, inA_8, inA_9, inA_10, al_0, al_1, al_2, al_4, al_5, al_98, bsP_2, bsP_3, wr_same, wr_wr, wr_ne, up_same, up_ne, Nat.reduceAdd, Int.reduceAdd, Int.reduceSub, Int.reduceMul, Int.reduceLT, Int.reduceLE, Int.reduceEq, Int.reduceNeg, Int.reduceToNat, Nat.reduceLT, Nat.reduceLeDiff, Nat.reduceEqDiff, ↓reduceIte, true_and, and_true, not_true_eq_false, not_false_eq_true, eq_self, or_true, true_or, or_false, false_or, if_true, if_false, Int.toNat_natCast, w_ite, Nat.add_zero, reduceCtorEq, ne_eq]
      have t12 : Txt (I2 (m + 6583)) fr (zl ys1) := Txt_congr t1 (fun j j1 j2 => o2 j (Or.inl (by rw [zl_len] at j2; omega)))
      have hd1 : ∀ n ∈ ys1, Dm n := fun n hn => hdm n (List.mem_of_mem_take ((m1 n).mp hn))
      have hd2 : ∀ n ∈ ys2, Dm n := fun n hn => hdm n (List.mem_of_mem_drop ((m2 n).mp hn))
      have hmsrt : (mg (kle tx) ys1 ys2).Pairwise (klt tx) := mg_srt ys1 ys2 p1 p2 (fun x hx y hy => hcross x ((m1 x).mp hx) y ((m2 y).mp hy))
      have hmlen : (mg (kle tx) ys1 ys2).length = xs.length := by rw [mg_len, l1, l2]; omega
      have hmmem : ∀ z, z ∈ mg (kle tx) ys1 ys2 ↔ z ∈ xs := fun z => by
        rw [mg_mem, m1, m2, ← List.mem_append, List.take_append_drop]
      -- back from the half
      have cp : ∀ (j e : Nat) (I3 : MI) (o4 : Option Value) (b5 : Int32) (o7 : Option Value), e + j = xs.length → (∀ x, x ≠ m + 6583 → I3 x = wr I2 (m + 6584) (pw (I2 (m + 6584)) fr (zl (mg (kle tx) ys1 ys2))) x) → (∀ j, (j < fr ∨ fr + e ≤ j) → I3 (m + 6583) j = I2 (m + 6583) j) → Txt (I3 (m + 6583)) fr ((zl (mg (kle tx) ys1 ys2)).take e) → XX (e1' + 1 + 2) 214 133 [some (.ref m), some (.int (w fr)), some (.int (w (fr + xs.length : Nat))), some (.int (w mid)), o4, some (.int b5), some (.int (w (fr + e : Nat))), o7] [] (mk S I3 L R G) Q := by
        intro j
        induction j with
        | zero =>
          intro e I3 o4 b5 o7 he g3 g4 gT
          have : e = xs.length := by omega
          subst this
          rw [q_214_133]
          simp (disch := omega) only [q_214_0, q_214_1, q_214_2, q_214_3, q_214_4, q_214_7, q_214_8, q_214_9, q_214_10, q_214_11, q_214_12, q_214_13, q_214_14, q_214_15, q_214_17, q_214_18, q_214_20, q_214_21, q_214_22, q_214_23, q_214_26, q_214_27, q_214_28, q_214_29, q_214_32, q_214_33, q_214_37, q_214_38, q_214_41, q_214_43, q_214_44, q_214_47, q_214_49, q_214_50, q_214_53, q_214_54, q_214_55, q_214_58, q_214_60, q_214_61, q_214_62, q_214_65, q_214_67, q_214_68, q_214_71, q_214_74, q_214_75, q_214_78, q_214_81, q_214_82, q_214_85, q_214_87, q_214_89, q_214_92, q_214_93, q_214_96, q_214_98, q_214_99, q_214_102, q_214_103, q_214_106, q_214_108, q_214_109, q_214_110, q_214_112, q_214_115, q_214_118, q_214_121, q_214_124, q_214_127, q_214_130, q_214_131, q_214_135, q_214_136, q_214_139, q_214_140, q_214_143, q_214_145, q_214_146, q_214_149, q_214_151, q_214_152, q_214_153, q_214_156, q_214_159, va_rf_s, bz_0, bz_1, bz_ok, bb_ok, Nat.add_assoc, w_lt, w_add, w_sub, w_mul, w_div, em_def, w_eq, w_inT, ↓ilt_t, ↓ilt_f, ↓ieq_t, ↓ieq_f, ntT, w_b, w_ix, kx_v, kx_n, kl_n, kl_i, kl_r, kl_o, inA_i, inA_s, inA_b, inA_z, inA_l, inA_0, inA_4, inA_5, inA_6, inA_7, inA_8, inA_9, inA_10, al_0, al_1, al_2, al_4, al_5, al_98, bsP_2, bsP_3, wr_same, wr_wr, wr_ne, up_same, up_ne, Nat.reduceAdd, Int.reduceAdd, Int.reduceSub, Int.reduceMul, Int.reduceLT, Int.reduceLE, Int.reduceEq, Int.reduceNeg, Int.reduceToNat, Nat.reduceLT, Nat.reduceLeDiff, Nat.reduceEqDiff, ↓reduceIte, true_and, and_true, not_true_eq_false, not_false_eq_true, eq_self, or_true, true_or, or_false, false_or, if_true, if_false, Int.toNat_natCast, w_ite, Nat.add_zero, reduceCtorEq, ne_eq]
          rw [List.take_of_length_le (by rw [zl_len]; omega)] at gT
          refine hQ I3 (mg (kle tx) ys1 ys2) (fun x h1 h2 => by rw [g3 x h1, wr_ne h2, f2 x h1 h2]) hmsrt hmmem hmlen gT (fun j hj => ?_)
          rw [g4 j hj, o2 j (by omega), o1 j (by omega)]
        | succ j jh =>
          intro e I3 o4 b5 o7 he g3 g4 gT
          have hel : e < (zl (mg (kle tx) ys1 ys2)).length := by rw [zl_len]; omega
          have eh : I3 (m + 6584) (fr + e) = w ((zl (mg (kle tx) ys1 ys2)).getD e 0) := by
            rw [g3 _ (by omega), wr_same]
            exact pw_txt _ _ _ e hel
          have v1 : ∀ x, x ≠ m + 6583 → wr I3 (m + 6583) (up (I3 (m + 6583)) (fr + e) (w ((zl (mg (kle tx) ys1 ys2)).getD e 0))) x = I3 x := fun x hx => wr_ne hx
          have v2 : wr I3 (m + 6583) (up (I3 (m + 6583)) (fr + e) (w ((zl (mg (kle tx) ys1 ys2)).getD e 0))) (m + 6583) = up (I3 (m + 6583)) (fr + e) (w ((zl (mg (kle tx) ys1 ys2)).getD e 0)) := wr_same
          rw [q_214_133]
          simp (disch := omega) only [q_214_0, q_214_1, q_214_2, q_214_3, q_214_4, q_214_7, q_214_8, q_214_9, q_214_10, q_214_11, q_214_12, q_214_13, q_214_14, q_214_15, q_214_17, q_214_18, q_214_20, q_214_21, q_214_22, q_214_23, q_214_26, q_214_27, q_214_28, q_214_29, q_214_32, q_214_33, q_214_37, q_214_38, q_214_41, q_214_43, q_214_44, q_214_47, q_214_49, q_214_50, q_214_53, q_214_54, q_214_55, q_214_58, q_214_60, q_214_61, q_214_62, q_214_65, q_214_67, q_214_68, q_214_71, q_214_74, q_214_75, q_214_78, q_214_81, q_214_82, q_214_85, q_214_87, q_214_89, q_214_92, q_214_93, q_214_96, q_214_98, q_214_99, q_214_102, q_214_103, q_214_106, q_214_108, q_214_109, q_214_110, q_214_112, q_214_115, q_214_118, q_214_121, q_214_124, q_214_127, q_214_130, q_214_131, q_214_135, q_214_136, q_214_139, q_214_140, q_214_143, q_214_145, q_214_146, q_214_149, q_214_151, q_214_152, q_214_153, q_214_156, q_214_159, va_rf_s, bz_0, bz_1, bz_ok, bb_ok, Nat.add_assoc, w_lt, w_add, w_sub, w_mul, w_div, em_def, w_eq, w_inT, ↓ilt_t, ↓ilt_f, ↓ieq_t, ↓ieq_f, ntT, w_b, w_ix, kx_v, kx_n, kl_n, kl_i, kl_r, kl_o, inA_i, inA_s, inA_b, inA_z, inA_l, inA_0, inA_4, inA_5, inA_6, inA_7, inA_8, inA_9, inA_10, al_0, al_1, al_2, al_4, al_5, al_98, bsP_2, bsP_3, wr_same, wr_wr, wr_ne, up_same, up_ne, Nat.reduceAdd, Int.reduceAdd, Int.reduceSub, Int.reduceMul, Int.reduceLT, Int.reduceLE, Int.reduceEq, Int.reduceNeg, Int.reduceToNat, Nat.reduceLT, Nat.reduceLeDiff, Nat.reduceEqDiff, ↓reduceIte, true_and, and_true, not_true_eq_false, not_false_eq_true, eq_self, or_true, true_or, or_false, false_or, if_true, if_false, Int.toNat_natCast, w_ite, Nat.add_zero, reduceCtorEq, ne_eq, hm, hS1, hS2, eh]
          generalize wr I3 (m + 6583) (up (I3 (m + 6583)) (fr + e) (w ((zl (mg (kle tx) ys1 ys2)).getD e 0))) = I4 at v1 v2 ⊢
          have hsn : (zl (mg (kle tx) ys1 ys2)).take (e + 1) = (zl (mg (kle tx) ys1 ys2)).take e ++ [(zl (mg (kle tx) ys1 ys2)).getD e 0] := by
            rw [List.take_add_one, List.getD_eq_getElem?_getD, List.getElem?_eq_getElem hel]; rfl
          have jh' := jh (e + 1) I4 o4 b5 o7 (by omega) (fun x hx => by rw [v1 x hx]; exact g3 x hx) (fun j hj => by rw [v2, up_ne (by omega)]; exact g4 j (by omega)) (by
            rw [hsn, v2]
            have := Txt_snoc (x := (zl (mg (kle tx) ys1 ys2)).getD e 0) gT
            rw [List.length_take, Nat.min_eq_left (by omega)] at this
            exact this)
          rw [show fr + (e + 1) = fr + e + 1 by omega] at jh'
          simp only [Int.natCast_add, Int.natCast_one] at jh' ⊢
          exact jh'
      -- the two halves merged
      have lpm : ∀ (N' : Nat) (as bs : List Nat) (l r e : Nat) (g : Nat → Int32) (o : Option Value), as.length + bs.length = N' → (∀ n ∈ as, Dm n) → (∀ n ∈ bs, Dm n) → Txt (I2 (m + 6583)) l (zl as) → Txt (I2 (m + 6583)) r (zl bs) → l + as.length = mid → r + bs.length = fr + xs.length → e + N' = fr + xs.length → pw g e (zl (mg (kle tx) as bs)) = pw (I2 (m + 6584)) fr (zl (mg (kle tx) ys1 ys2)) → XX (e1' + 1 + 2) 214 35 [some (.ref m), some (.int (w fr)), some (.int (w (fr + xs.length : Nat))), some (.int (w mid)), some (.int (w l)), some (.int (w r)), some (.int (w e)), o] [] (mk S (wr I2 (m + 6584) g) L R G) Q := by
        intro N'
        induction N' with
        | zero =>
          intro as bs l r e g o hN' ha hb ta tb e1 e2 e3 hg
          have h1 : as = [] := List.eq_nil_of_length_eq_zero (by omega)
          have h2 : bs = [] := List.eq_nil_of_length_eq_zero (by omega)
          subst h1 h2
          rw [mg_nil, show zl [] = [] from rfl, pw_nil] at hg
          rw [q_214_35]
          simp (disch := omega) only [q_214_0, q_214_1, q_214_2, q_214_3, q_214_4, q_214_7, q_214_8, q_214_9, q_214_10, q_214_11, q_214_12, q_214_13, q_214_14, q_214_15, q_214_17, q_214_18, q_214_20, q_214_21, q_214_22, q_214_23, q_214_26, q_214_27, q_214_28, q_214_29, q_214_32, q_214_33, q_214_37, q_214_38, q_214_41, q_214_43, q_214_44, q_214_47, q_214_49, q_214_50, q_214_53, q_214_54, q_214_55, q_214_58, q_214_60, q_214_61, q_214_62, q_214_65, q_214_67, q_214_68, q_214_71, q_214_74, q_214_75, q_214_78, q_214_81, q_214_82, q_214_85, q_214_87, q_214_89, q_214_92, q_214_93, q_214_96, q_214_98, q_214_99, q_214_102, q_214_103, q_214_106, q_214_108, q_214_109, q_214_110, q_214_112, q_214_115, q_214_118, q_214_121, q_214_124, q_214_127, q_214_130, q_214_131, q_214_135, q_214_136, q_214_139, q_214_140, q_214_143, q_214_145, q_214_146, q_214_149, q_214_151, q_214_152, q_214_153, q_214_156, q_214_159, va_rf_s, bz_0, bz_1, bz_ok, bb_ok, Nat.add_assoc, w_lt, w_add, w_sub, w_mul, w_div, em_def, w_eq, w_inT, ↓ilt_t, ↓ilt_f, ↓ieq_t, ↓ieq_f, ntT, w_b, w_ix, kx_v, kx_n, kl_n, kl_i, kl_r, kl_o, inA_i, inA_s, inA_b, inA_z, inA_l, inA_0, inA_4, inA_5, inA_6, inA_7, inA_8, inA_9, inA_10, al_0, al_1, al_2, al_4, al_5, al_98, bsP_2, bsP_3, wr_same, wr_wr, wr_ne, up_same, up_ne, Nat.reduceAdd, Int.reduceAdd, Int.reduceSub, Int.reduceMul, Int.reduceLT, Int.reduceLE, Int.reduceEq, Int.reduceNeg, Int.reduceToNat, Nat.reduceLT, Nat.reduceLeDiff, Nat.reduceEqDiff, ↓reduceIte, true_and, and_true, not_true_eq_false, not_false_eq_true, eq_self, or_true, true_or, or_false, false_or, if_true, if_false, Int.toNat_natCast, w_ite, Nat.add_zero, reduceCtorEq, ne_eq]
          rw [hg]
          have := cp xs.length 0 (wr I2 (m + 6584) (pw (I2 (m + 6584)) fr (zl (mg (kle tx) ys1 ys2)))) (some (.int (w l))) (w r) o (by omega) (fun _ _ => rfl) (fun j _ => by rw [wr_ne (by omega)]) (fun i hi => by rw [List.take_zero] at hi; exact nomatch hi)
          rw [Nat.add_zero] at this
          exact this
        | succ N' nh =>
          intro as bs l r e g o hN' ha hb ta tb e1 e2 e3 hg
          have hbase : ∀ x, x ≠ m + 6583 → x ≠ m + 6584 → wr I2 (m + 6584) g x = I x := fun x h1 h2 => by rw [wr_ne h2]; exact f2 x h1 h2
          have hA2 : wr I2 (m + 6584) g (m + 6583) = I2 (m + 6583) := wr_ne (by omega)
          have tl : ∀ x as', as = x :: as' → mg (kle tx) as bs = x :: mg (kle tx) as' bs → XX (e1' + 1 + 2) 214 79 [some (.ref m), some (.int (w fr)), some (.int (w (fr + xs.length : Nat))), some (.int (w mid)), some (.int (w l)), some (.int (w r)), some (.int (w e)), o] [.int (w 1)] (mk S (wr I2 (m + 6584) g) L R G) Q := by
            intro x as' ea em
            rw [em] at hg
            subst ea
            rw [List.length_cons] at hN' e1
            have t1 := Txt.head (f := I2 (m + 6583)) (p := l) (x := (x : Int)) (s := zl as') ta
            have hxd := hD x (ha x (List.mem_cons_self ..))
            have nh' := nh as' bs (l + 1) r (e + 1) (up g e (w x)) (some (.int (w 1))) (by omega) (fun n hn => ha n (List.mem_cons_of_mem _ hn)) hb t1.2 tb (by omega) e2 (by omega) (by rw [pw_cons]; exact hg)
            simp only [Int.natCast_add, Int.natCast_one] at nh'
            have ex := t1.1
            rw [q_214_79]
            simp (disch := omega) only [q_214_0, q_214_1, q_214_2, q_214_3, q_214_4, q_214_7, q_214_8, q_214_9, q_214_10, q_214_11, q_214_12, q_214_13, q_214_14, q_214_15, q_214_17, q_214_18, q_214_20, q_214_21, q_214_22, q_214_23, q_214_26, q_214_27, q_214_28, q_214_29, q_214_32, q_214_33, q_214_37, q_214_38, q_214_41, q_214_43, q_214_44, q_214_47, q_214_49, q_214_50, q_214_53, q_214_54, q_214_55, q_214_58, q_214_60, q_214_61, q_214_62, q_214_65, q_214_67, q_214_68, q_214_71, q_214_74, q_214_75, q_214_78, q_214_81, q_214_82, q_214_85, q_214_87, q_214_89, q_214_92, q_214_93, q_214_96, q_214_98, q_214_99, q_214_102, q_214_103, q_214_106, q_214_108, q_214_109, q_214_110, q_214_112, q_214_115, q_214_118, q_214_121, q_214_124, q_214_127, q_214_130, q_214_131, q_214_135, q_214_136, q_214_139, q_214_140, q_214_143, q_214_145, q_214_146, q_214_149, q_214_151, q_214_152, q_214_153, q_214_156, q_214_159, va_rf_s, bz_0, bz_1, bz_ok, bb_ok, Nat.add_assoc, w_lt, w_add, w_sub, w_mul, w_div, em_def, w_eq, w_inT, ↓ilt_t, ↓ilt_f, ↓ieq_t, ↓ieq_f, ntT, w_b, w_ix, kx_v, kx_n, kl_n, kl_i, kl_r, kl_o, inA_i, inA_s, inA_b, inA_z, inA_l, inA_0, inA_4, inA_5, inA_6, inA_7, inA_8, inA_9, inA_10, al_0, al_1, al_2, al_4, al_5, al_98, bsP_2, bsP_3, wr_same, wr_wr, wr_ne, up_same, up_ne, Nat.reduceAdd, Int.reduceAdd, Int.reduceSub, Int.reduceMul, Int.reduceLT, Int.reduceLE, Int.reduceEq, Int.reduceNeg, Int.reduceToNat, Nat.reduceLT, Nat.reduceLeDiff, Nat.reduceEqDiff, ↓reduceIte, true_and, and_true, not_true_eq_false, not_false_eq_true, eq_self, or_true, true_or, or_false, false_or, if_true, if_false, Int.toNat_natCast, w_ite, Nat.add_zero, reduceCtorEq, ne_eq, hm, hS1, hS2, ex, Int.natCast_add]
            exact nh'
          have tr : ∀ y bs', bs = y :: bs' → mg (kle tx) as bs = y :: mg (kle tx) as bs' → XX (e1' + 1 + 2) 214 79 [some (.ref m), some (.int (w fr)), some (.int (w (fr + xs.length : Nat))), some (.int (w mid)), some (.int (w l)), some (.int (w r)), some (.int (w e)), o] [.int (w 0)] (mk S (wr I2 (m + 6584) g) L R G) Q := by
            intro y bs' ea em
            rw [em] at hg
            subst ea
            rw [List.length_cons] at hN' e2
            have t1 := Txt.head (f := I2 (m + 6583)) (p := r) (x := (y : Int)) (s := zl bs') tb
            have hxd := hD y (hb y (List.mem_cons_self ..))
            have nh' := nh as bs' l (r + 1) (e + 1) (up g e (w y)) (some (.int (w 0))) (by omega) ha (fun n hn => hb n (List.mem_cons_of_mem _ hn)) ta t1.2 e1 (by omega) (by omega) (by rw [pw_cons]; exact hg)
            simp only [Int.natCast_add, Int.natCast_one] at nh'
            have ex := t1.1
            rw [q_214_79]
            simp (disch := omega) only [q_214_0, q_214_1, q_214_2, q_214_3, q_214_4, q_214_7, q_214_8, q_214_9, q_214_10, q_214_11, q_214_12, q_214_13, q_214_14, q_214_15, q_214_17, q_214_18, q_214_20, q_214_21, q_214_22, q_214_23, q_214_26, q_214_27, q_214_28, q_214_29, q_214_32, q_214_33, q_214_37, q_214_38, q_214_41, q_214_43, q_214_44, q_214_47, q_214_49, q_214_50, q_214_53, q_214_54, q_214_55, q_214_58, q_214_60, q_214_61, q_214_62, q_214_65, q_214_67, q_214_68, q_214_71, q_214_74, q_214_75, q_214_78, q_214_81, q_214_82, q_214_85, q_214_87, q_214_89, q_214_92, q_214_93, q_214_96, q_214_98, q_214_99, q_214_102, q_214_103, q_214_106, q_214_108, q_214_109, q_214_110, q_214_112, q_214_115, q_214_118, q_214_121, q_214_124, q_214_127, q_214_130, q_214_131, q_214_135, q_214_136, q_214_139, q_214_140, q_214_143, q_214_145, q_214_146, q_214_149, q_214_151, q_214_152, q_214_153, q_214_156, q_214_159, va_rf_s, bz_0, bz_1, bz_ok, bb_ok, Nat.add_assoc, w_lt, w_add, w_sub, w_mul, w_div, em_def, w_eq, w_inT, ↓ilt_t, ↓ilt_f, ↓ieq_t, ↓ieq_f, ntT, w_b, w_ix, kx_v, kx_n, kl_n, kl_i, kl_r, kl_o, inA_i, inA_s, inA_b, inA_z, inA_l, inA_0, inA_4, inA_5, inA_6, inA_7, inA_8, inA_9, inA_10, al_0, al_1, al_2, al_4, al_5, al_98, bsP_2, bsP_3, wr_same, wr_wr, wr_ne, up_same, up_ne, Nat.reduceAdd, Int.reduceAdd, Int.reduceSub, Int.reduceMul, Int.reduceLT, Int.reduceLE, Int.reduceEq, Int.reduceNeg, Int.reduceToNat, Nat.reduceLT, Nat.reduceLeDiff, Nat.reduceEqDiff, ↓reduceIte, true_and, and_true, not_true_eq_false, not_false_eq_true, eq_self, or_true, true_or, or_false, false_or, if_true, if_false, Int.toNat_natCast, w_ite, Nat.add_zero, reduceCtorEq, ne_eq, hm, hS1, hS2, ex, Int.natCast_add]
            exact nh'
          rw [q_214_35]
          cases bs with
          | nil =>
            cases as with
            | nil => exact absurd hN' (by simp)
            | cons x as' =>
              have t := tl x as' rfl (by rw [mg_nil2, mg_nil2])
              simp only [List.length_cons, List.length_nil, Nat.add_zero] at e1 e2 hN'
              simp (disch := omega) only [q_214_0, q_214_1, q_214_2, q_214_3, q_214_4, q_214_7, q_214_8, q_214_9, q_214_10, q_214_11, q_214_12, q_214_13, q_214_14, q_214_15, q_214_17, q_214_18, q_214_20, q_214_21, q_214_22, q_214_23, q_214_26, q_214_27, q_214_28, q_214_29, q_214_32, q_214_33, q_214_37, q_214_38, q_214_41, q_214_43, q_214_44, q_214_47, q_214_49, q_214_50, q_214_53, q_214_54, q_214_55, q_214_58, q_214_60, q_214_61, q_214_62, q_214_65, q_214_67, q_214_68, q_214_71, q_214_74, q_214_75, q_214_78, q_214_81, q_214_82, q_214_85, q_214_87, q_214_89, q_214_92, q_214_93, q_214_96, q_214_98, q_214_99, q_214_102, q_214_103, q_214_106, q_214_108, q_214_109, q_214_110, q_214_112, q_214_115, q_214_118, q_214_121, q_214_124, q_214_127, q_214_130, q_214_131, q_214_135, q_214_136, q_214_139, q_214_140, q_214_143, q_214_145, q_214_146, q_214_149, q_214_151, q_214_152, q_214_153, q_214_156, q_214_159, va_rf_s, bz_0, bz_1, bz_ok, bb_ok, Nat.add_assoc, w_lt, w_add, w_sub, w_mul, w_div, em_def, w_eq, w_inT, ↓ilt_t, ↓ilt_f, ↓ieq_t, ↓ieq_f, ntT, w_b, w_ix, kx_v, kx_n, kl_n, kl_i, kl_r, kl_o, inA_i, inA_s, inA_b, inA_z, inA_l, inA_0, inA_4, inA_5, inA_6, inA_7, inA_8, inA_9, inA_10, al_0, al_1, al_2, al_4, al_5, al_98, bsP_2, bsP_3, wr_same, wr_wr, wr_ne, up_same, up_ne, Nat.reduceAdd, Int.reduceAdd, Int.reduceSub, Int.reduceMul, Int.reduceLT, Int.reduceLE, Int.reduceEq, Int.reduceNeg, Int.reduceToNat, Nat.reduceLT, Nat.reduceLeDiff, Nat.reduceEqDiff, ↓reduceIte, true_and, and_true, not_true_eq_false, not_false_eq_true, eq_self, or_true, true_or, or_false, false_or, if_true, if_false, Int.toNat_natCast, w_ite, Nat.add_zero, reduceCtorEq, ne_eq]
              exact t
          | cons y bs' =>
            cases as with
            | nil =>
              have t := tr y bs' rfl (by rw [mg_nil, mg_nil])
              simp only [List.length_cons, List.length_nil, Nat.add_zero] at e1 e2 hN'
              simp (disch := omega) only [q_214_0, q_214_1, q_214_2, q_214_3, q_214_4, q_214_7, q_214_8, q_214_9, q_214_10, q_214_11, q_214_12, q_214_13, q_214_14, q_214_15, q_214_17, q_214_18, q_214_20, q_214_21, q_214_22, q_214_23, q_214_26, q_214_27, q_214_28, q_214_29, q_214_32, q_214_33, q_214_37, q_214_38, q_214_41, q_214_43, q_214_44, q_214_47, q_214_49, q_214_50, q_214_53, q_214_54, q_214_55, q_214_58, q_214_60, q_214_61, q_214_62, q_214_65, q_214_67, q_214_68, q_214_71, q_214_74, q_214_75, q_214_78, q_214_81, q_214_82, q_214_85, q_214_87, q_214_89, q_214_92, q_214_93, q_214_96, q_214_98, q_214_99, q_214_102, q_214_103, q_214_106, q_214_108, q_214_109, q_214_110, q_214_112, q_214_115, q_214_118, q_214_121, q_214_124, q_214_127, q_214_130, q_214_131, q_214_135, q_214_136, q_214_139, q_214_140, q_214_143, q_214_145, q_214_146, q_214_149, q_214_151, q_214_152, q_214_153, q_214_156, q_214_159, va_rf_s, bz_0, bz_1, bz_ok, bb_ok, Nat.add_assoc, w_lt, w_add, w_sub, w_mul, w_div, em_def, w_eq, w_inT, ↓ilt_t, ↓ilt_f, ↓ieq_t, ↓ieq_f, ntT, w_b, w_ix, kx_v, kx_n, kl_n, kl_i, kl_r, kl_o, inA_i, inA_s, inA_b, inA_z, inA_l, inA_0, inA_4, inA_5, inA_6, inA_7, inA_8, inA_9, inA_10, al_0, al_1, al_2, al_4, al_5, al_98, bsP_2, bsP_3, wr_same, wr_wr, wr_ne, up_same, up_ne, Nat.reduceAdd, Int.reduceAdd, Int.reduceSub, Int.reduceMul, Int.reduceLT, Int.reduceLE, Int.reduceEq, Int.reduceNeg, Int.reduceToNat, Nat.reduceLT, Nat.reduceLeDiff, Nat.reduceEqDiff, ↓reduceIte, true_and, and_true, not_true_eq_false, not_false_eq_true, eq_self, or_true, true_or, or_false, false_or, if_true, if_false, Int.toNat_natCast, w_ite, Nat.add_zero, reduceCtorEq, ne_eq]
              exact t
            | cons x as' =>
              have hdx := ha x (List.mem_cons_self ..)
              have hdy := hb y (List.mem_cons_self ..)
              have scm := hcmp (wr I2 (m + 6584) g) x y hbase hdx hdy
              have hlb := hlx x y hdx hdy
              have ex1 := (Txt.head (f := I2 (m + 6583)) (p := l) (x := (x : Int)) (s := zl as') ta).1
              have ex2 := (Txt.head (f := I2 (m + 6583)) (p := r) (x := (y : Int)) (s := zl bs') tb).1
              have tl' := tl x as' rfl
              have tr' := tr y bs' rfl
              rw [mg_cons] at tl' tr'
              simp only [List.length_cons] at e1 e2 hN'
              simp (disch := omega) only [q_214_0, q_214_1, q_214_2, q_214_3, q_214_4, q_214_7, q_214_8, q_214_9, q_214_10, q_214_11, q_214_12, q_214_13, q_214_14, q_214_15, q_214_17, q_214_18, q_214_20, q_214_21, q_214_22, q_214_23, q_214_26, q_214_27, q_214_28, q_214_29, q_214_32, q_214_33, q_214_37, q_214_38, q_214_41, q_214_43, q_214_44, q_214_47, q_214_49, q_214_50, q_214_53, q_214_54, q_214_55, q_214_58, q_214_60, q_214_61, q_214_62, q_214_65, q_214_67, q_214_68, q_214_71, q_214_74, q_214_75, q_214_78, q_214_81, q_214_82, q_214_85, q_214_87, q_214_89, q_214_92, q_214_93, q_214_96, q_214_98, q_214_99, q_214_102, q_214_103, q_214_106, q_214_108, q_214_109, q_214_110, q_214_112, q_214_115, q_214_118, q_214_121, q_214_124, q_214_127, q_214_130, q_214_131, q_214_135, q_214_136, q_214_139, q_214_140, q_214_143, q_214_145, q_214_146, q_214_149, q_214_151, q_214_152, q_214_153, q_214_156, q_214_159, va_rf_s, bz_0, bz_1, bz_ok, bb_ok, Nat.add_assoc, w_lt, w_add, w_sub, w_mul, w_div, em_def, w_eq, w_inT, ↓ilt_t, ↓ilt_f, ↓ieq_t, ↓ieq_f, ntT, w_b, w_ix, kx_v, kx_n, kl_n, kl_i, kl_r, kl_o, inA_i, inA_s, inA_b, inA_z, inA_l, inA_0, inA_4, inA_5, inA_6, inA_7, inA_8, inA_9, inA_10, al_0, al_1, al_2, al_4, al_5, al_98, bsP_2, bsP_3, wr_same, wr_wr, wr_ne, up_same, up_ne, Nat.reduceAdd, Int.reduceAdd, Int.reduceSub, Int.reduceMul, Int.reduceLT, Int.reduceLE, Int.reduceEq, Int.reduceNeg, Int.reduceToNat, Nat.reduceLT, Nat.reduceLeDiff, Nat.reduceEqDiff, ↓reduceIte, true_and, and_true, not_true_eq_false, not_false_eq_true, eq_self, or_true, true_or, or_false, false_or, if_true, if_false, Int.toNat_natCast, w_ite, Nat.add_zero, reduceCtorEq, ne_eq, hm, hS1, ex1, ex2, scm]
              by_cases c : lexc (tx x) (tx y) ≤ 0
              · have ck : kle (tx) x y = true := by unfold kle; exact decide_eq_true c
                rw [if_pos ck] at tl'
                rw [if_neg (by omega)]
                exact tl' rfl
              · have ck : ¬ kle (tx) x y = true := by unfold kle; simpa using c
                rw [if_neg ck] at tr'
                rw [if_pos (by omega)]
                exact tr' rfl
      have := lpm xs.length ys1 ys2 fr mid fr (I2 (m + 6584)) none (by rw [l1, l2]; omega) hd1 hd2 t12 t2 (by rw [l1]; omega) (by rw [l2]; omega) rfl rfl
      rw [wr_self] at this
      exact this
theorem sp_234 {tx : Nat → List Int} {Dm : Nat → Prop} {N : Nat} (hm : S m = some (.inr 12)) (hS1 : S (m + 6677) = some (.inl (0, N))) (hS2 : S (m + 6676) = some (.inl (0, N))) (hN : N ≤ 60000) (hD : ∀ a, Dm a → a < 60000) (hlx : ∀ a b, Dm a → Dm b → -2000 ≤ lexc (tx a) (tx b) ∧ lexc (tx a) (tx b) ≤ 2000) (hcmp : ∀ (I' : MI) (a b : Nat), (∀ x, x ≠ m + 6677 → x ≠ m + 6676 → I' x = I x) → Dm a → Dm b → ∀ (d : Nat) (Q : XO → Hp → Prop), XC (d + 1) 233 [.ref m, .int (w a), .int (w b)] (mk S I' L R G) Q ↔ Q (.inl (some (.int (w (lexc (tx a) (tx b)))))) (mk S I' L R G)) :
    ∀ (f : Nat) (xs : List Nat) (fr e0 : Nat) (I0 : MI) (Q : XO → Hp → Prop), f ≤ e0 → xs.length ≤ 2 ^ f → (∀ n ∈ xs, Dm n) → xs.Pairwise (· < ·) → fr + xs.length ≤ N → (∀ x, x ≠ m + 6677 → x ≠ m + 6676 → I0 x = I x) → Txt (I0 (m + 6677)) fr (zl xs) →
      (∀ (I' : MI) (ys : List Nat), (∀ x, x ≠ m + 6677 → x ≠ m + 6676 → I' x = I x) → ys.Pairwise (klt tx) → (∀ z, z ∈ ys ↔ z ∈ xs) → ys.length = xs.length → Txt (I' (m + 6677)) fr (zl ys) → (∀ j, (j < fr ∨ fr + xs.length ≤ j) → I' (m + 6677) j = I0 (m + 6677) j) → Q (.inl none) (mk S I' L R G)) →
      XC (e0 + 2) 234 [.ref m, .int (w fr), .int (w (fr + xs.length : Nat))] (mk S I0 L R G) Q := by
  intro f
  induction f with
  | zero =>
    intro xs fr e0 I0 Q hf hlen hdm hs hfr h0 hT hQ
    have hlen' : xs.length ≤ 1 := by simpa using hlen
    have h1 : xs.Pairwise (klt tx) := by
      match xs, hlen' with
      | [], _ => exact List.Pairwise.nil
      | [x], _ => exact List.pairwise_singleton _ _
    rw [q_234_e]
    simp (disch := omega) only [q_234_0, q_234_1, q_234_2, q_234_3, q_234_4, q_234_7, q_234_8, q_234_9, q_234_10, q_234_11, q_234_12, q_234_13, q_234_14, q_234_15, q_234_17, q_234_18, q_234_20, q_234_21, q_234_22, q_234_23, q_234_26, q_234_27, q_234_28, q_234_29, q_234_32, q_234_33, q_234_37, q_234_38, q_234_41, q_234_43, q_234_44, q_234_47, q_234_49, q_234_50, q_234_53, q_234_54, q_234_55, q_234_58, q_234_60, q_234_61, q_234_62, q_234_65, q_234_67, q_234_68, q_234_71, q_234_74, q_234_75, q_234_78, q_234_81, q_234_82, q_234_85, q_234_87, q_234_89, q_234_92, q_234_93, q_234_96, q_234_98, q_234_99, q_234_102, q_234_103, q_234_106, q_234_108, q_234_109, q_234_110, q_234_112, q_234_115, q_234_118, q_234_121, q_234_124, q_234_127, q_234_130, q_234_131, q_234_135, q_234_136, q_234_139, q_234_140, q_234_143, q_234_145, q_234_146, q_234_149, q_234_151, q_234_152, q_234_153, q_234_156, q_234_159, va_rf_s, bz_0, bz_1, bz_ok, bb_ok, Nat.add_assoc, w_lt, w_add, w_sub, w_mul, w_div, em_def, w_eq, w_inT, ↓ilt_t, ↓ilt_f, ↓ieq_t, ↓ieq_f, ntT, w_b, w_ix, kx_v, kx_n, kl_n, kl_i, kl_r, kl_o, inA_i, inA_s, inA_b, inA_z, inA_l, inA_0, inA_4, inA_5, inA_6, inA_7, inA_8, inA_9, inA_10, al_0, al_1, al_2, al_4, al_5, al_98, bsP_2, bsP_3, wr_same, wr_wr, wr_ne, up_same, up_ne, Nat.reduceAdd, Int.reduceAdd, Int.reduceSub, Int.reduceMul, Int.reduceLT, Int.reduceLE, Int.reduceEq, Int.reduceNeg, Int.reduceToNat, Nat.reduceLT, Nat.reduceLeDiff, Nat.reduceEqDiff, ↓reduceIte, true_and, and_true, not_true_eq_false, not_false_eq_true, eq_self, or_true, true_or, or_false, false_or, if_true, if_false, Int.toNat_natCast, w_ite, Nat.add_zero, reduceCtorEq, ne_eq]
    exact hQ I0 xs h0 h1 (fun z => Iff.rfl) rfl hT (fun j _ => rfl)
  | succ f ih =>
    intro xs fr e0 I0 Q hf hlen hdm hs hfr h0 hT hQ
    by_cases c2 : xs.length < 2
    · have h1 : xs.Pairwise (klt tx) := by
        match xs, c2 with
        | [], _ => exact List.Pairwise.nil
        | [x], _ => exact List.pairwise_singleton _ _
      rw [q_234_e]
      simp (disch := omega) only [q_234_0, q_234_1, q_234_2, q_234_3, q_234_4, q_234_7, q_234_8, q_234_9, q_234_10, q_234_11, q_234_12, q_234_13, q_234_14, q_234_15, q_234_17, q_234_18, q_234_20, q_234_21, q_234_22, q_234_23, q_234_26, q_234_27, q_234_28, q_234_29, q_234_32, q_234_33, q_234_37, q_234_38, q_234_41, q_234_43, q_234_44, q_234_47, q_234_49, q_234_50, q_234_53, q_234_54, q_234_55, q_234_58, q_234_60, q_234_61, q_234_62, q_234_65, q_234_67, q_234_68, q_234_71, q_234_74, q_234_75, q_234_78, q_234_81, q_234_82, q_234_85, q_234_87, q_234_89, q_234_92, q_234_93, q_234_96, q_234_98, q_234_99, q_234_102, q_234_103, q_234_106, q_234_108, q_234_109, q_234_110, q_234_112, q_234_115, q_234_118, q_234_121, q_234_124, q_234_127, q_234_130, q_234_131, q_234_135, q_234_136, q_234_139, q_234_140, q_234_143, q_234_145, q_234_146, q_234_149, q_234_151, q_234_152, q_234_153, q_234_156, q_234_159, va_rf_s, bz_0, bz_1, bz_ok, bb_ok, Nat.add_assoc, w_lt, w_add, w_sub, w_mul, w_div, em_def, w_eq, w_inT, ↓ilt_t, ↓ilt_f, ↓ieq_t, ↓ieq_f, ntT, w_b, w_ix, kx_v, kx_n, kl_n, kl_i, kl_r, kl_o, inA_i, inA_s, inA_b, inA_z, inA_l, inA_0, inA_4, inA_5, inA_6, inA_7, inA_8, inA_9, inA_10, al_0, al_1, al_2, al_4, al_5, al_98, bsP_2, bsP_3, wr_same, wr_wr, wr_ne, up_same, up_ne, Nat.reduceAdd, Int.reduceAdd, Int.reduceSub, Int.reduceMul, Int.reduceLT, Int.reduceLE, Int.reduceEq, Int.reduceNeg, Int.reduceToNat, Nat.reduceLT, Nat.reduceLeDiff, Nat.reduceEqDiff, ↓reduceIte, true_and, and_true, not_true_eq_false, not_false_eq_true, eq_self, or_true, true_or, or_false, false_or, if_true, if_false, Int.toNat_natCast, w_ite, Nat.add_zero, reduceCtorEq, ne_eq]
      exact hQ I0 xs h0 h1 (fun z => Iff.rfl) rfl hT (fun j _ => rfl)
    · obtain ⟨e1', rfl⟩ : ∃ e1', e0 = e1' + 1 := ⟨e0 - 1, by omega⟩
      obtain ⟨mid, hmid⟩ : ∃ mid, mid = fr + xs.length / 2 := ⟨_, rfl⟩
      have emid : ((fr : Int) + (fr + xs.length : Nat)) / 2 = mid := by omega
      have hl1 : (xs.take (xs.length / 2)).length = xs.length / 2 := by rw [List.length_take]; omega
      have hl2 : (xs.drop (xs.length / 2)).length = xs.length - xs.length / 2 := by rw [List.length_drop]
      have hp2 : 2 ^ (f + 1) = 2 * 2 ^ f := by rw [Nat.pow_succ, Nat.mul_comm]
      have et1 : fr + (xs.take (xs.length / 2)).length = mid := by omega
      have et2 : mid + (xs.drop (xs.length / 2)).length = fr + xs.length := by omega
      have hT1 : Txt (I0 (m + 6677)) fr (zl (xs.take (xs.length / 2))) := by
        have := hT.take (xs.length / 2)
        rw [show (zl xs).take (xs.length / 2) = zl (xs.take (xs.length / 2)) by unfold zl; rw [List.map_take]] at this
        exact this
      have hT2 : Txt (I0 (m + 6677)) mid (zl (xs.drop (xs.length / 2))) := by
        have := hT.drop (xs.length / 2)
        rw [show (zl xs).drop (xs.length / 2) = zl (xs.drop (xs.length / 2)) by unfold zl; rw [List.map_drop], ← hmid] at this
        exact this
      have ht1 : (xs.take (xs.length / 2)).Pairwise (· < ·) := hs.sublist (List.take_sublist _ _)
      have ht2 : (xs.drop (xs.length / 2)).Pairwise (· < ·) := hs.sublist (List.drop_sublist _ _)
      have hcross : ∀ x ∈ xs.take (xs.length / 2), ∀ y ∈ xs.drop (xs.length / 2), x < y := by
        have h := hs
        rw [← List.take_append_drop (xs.length / 2) xs, List.pairwise_append] at h
        exact h.2.2
      rw [q_234_e]
      simp (disch := omega) only [q_234_0, q_234_1, q_234_2, q_234_3, q_234_4, q_234_7, q_234_8, q_234_9, q_234_10, q_234_11, q_234_12, q_234_13, q_234_14, q_234_15, q_234_17, q_234_18, q_234_20, q_234_21, q_234_22, q_234_23, q_234_26, q_234_27, q_234_28, q_234_29, q_234_32, q_234_33, q_234_37, q_234_38, q_234_41, q_234_43, q_234_44, q_234_47, q_234_49, q_234_50, q_234_53, q_234_54, q_234_55, q_234_58, q_234_60, q_234_61, q_234_62, q_234_65, q_234_67, q_234_68, q_234_71, q_234_74, q_234_75, q_234_78, q_234_81, q_234_82, q_234_85, q_234_87, q_234_89, q_234_92, q_234_93, q_234_96, q_234_98, q_234_99, q_234_102, q_234_103, q_234_106, q_234_108, q_234_109, q_234_110, q_234_112, q_234_115, q_234_118, q_234_121, q_234_124, q_234_127, q_234_130, q_234_131, q_234_135, q_234_136, q_234_139, q_234_140, q_234_143, q_234_145, q_234_146, q_234_149, q_234_151, q_234_152, q_234_153, q_234_156, q_234_159, va_rf_s, bz_0, bz_1, bz_ok, bb_ok, Nat.add_assoc, w_lt, w_add, w_sub, w_mul, w_div, em_def, w_eq, w_inT, ↓ilt_t, ↓ilt_f, ↓ieq_t, ↓ieq_f, ntT, w_b, w_ix, kx_v, kx_n, kl_n, kl_i, kl_r, kl_o, inA_i, inA_s, inA_b, inA_z, inA_l, inA_0, inA_4, inA_5, inA_6, inA_7, inA_8, inA_9, inA_10, al_0, al_1, al_2, al_4, al_5, al_98, bsP_2, bsP_3, wr_same, wr_wr, wr_ne, up_same, up_ne, Nat.reduceAdd, Int.reduceAdd, Int.reduceSub, Int.reduceMul, Int.reduceLT, Int.reduceLE, Int.reduceEq, Int.reduceNeg, Int.reduceToNat, Nat.reduceLT, Nat.reduceLeDiff, Nat.reduceEqDiff, ↓reduceIte, true_and, and_true, not_true_eq_false, not_false_eq_true, eq_self, or_true, true_or, or_false, false_or, if_true, if_false, Int.toNat_natCast, w_ite, Nat.add_zero, reduceCtorEq, ne_eq, emid, hm]
      have ih1 := fun Q => ih (xs.take (xs.length / 2)) fr e1' I0 Q (by omega) (by omega) (fun n hn => hdm n (List.mem_of_mem_take hn)) ht1 (by omega) h0 hT1
      rw [et1] at ih1
      refine ih1 _ (fun I1 ys1 f1 p1 m1 l1 t1 o1 => ?_)
      simp (disch := omega) only [q_234_0, q_234_1, q_234_2, q_234_3, q_234_4, q_234_7, q_234_8, q_234_9, q_234_10, q_234_11, q_234_12, q_234_13, q_234_14, q_234_15, q_234_17, q_234_18, q_234_20, q_234_21, q_234_22, q_234_23, q_234_26, q_234_27, q_234_28, q_234_29, q_234_32, q_234_33, q_234_37, q_234_38, q_234_41, q_234_43, q_234_44, q_234_47, q_234_49, q_234_50, q_234_53, q_234_54, q_234_55, q_234_58, q_234_60, q_234_61, q_234_62, q_234_65, q_234_67, q_234_68, q_234_71, q_234_74, q_234_75, q_234_78, q_234_81, q_234_82, q_234_85, q_234_87, q_234_89, q_234_92, q_234_93, q_234_96, q_234_98, q_234_99, q_234_102, q_234_103, q_234_106, q_234_108, q_234_109, q_234_110, q_234_112, q_234_115, q_234_118, q_234_121, q_234_124, q_234_127, q_234_130, q_234_131, q_234_135, q_234_136, q_234_139, q_234_140, q_234_143, q_234_145, q_234_146, q_234_149, q_234_151, q_234_152, q_234_153, q_234_156, q_234_159, va_rf_s, bz_0, bz_1, bz_ok, bb_ok, Nat.add_assoc, w_lt, w_add, w_sub, w_mul, w_div, em_def, w_eq, w_inT, ↓ilt_t, ↓ilt_f, ↓ieq_t, ↓ieq_f, ntT, w_b, w_ix, kx_v, kx_n, kl_n, kl_i, kl_r, kl_o, inA_i, inA_s, inA_b, inA_z, inA_l, inA_0, inA_4, inA_5, inA_6, inA_7, inA_8, inA_9, inA_10, al_0, al_1, al_2, al_4, al_5, al_98, bsP_2, bsP_3, wr_same, wr_wr, wr_ne, up_same, up_ne, Nat.reduceAdd, Int.reduceAdd, Int.reduceSub, Int.reduceMul, Int.reduceLT, Int.reduceLE, Int.reduceEq, Int.reduceNeg, Int.reduceToNat, Nat.reduceLT, Nat.reduceLeDiff, Nat.reduceEqDiff, ↓reduceIte, true_and, and_true, not_true_eq_false, not_false_eq_true, eq_self, or_true, true_or, or_false, false_or, if_true, if_false, Int.toNat_natCast, w_ite, Nat.add_zero, reduceCtorEq, ne_eq, hm]
      have ih2 := fun Q => ih (xs.drop (xs.length / 2)) mid e1' I1 Q (by omega) (by omega) (fun n hn => hdm n (List.mem_of_mem_drop hn)) ht2 (by omega) f1 (Txt_congr hT2 (fun j j1 j2 => o1 j (Or.inr (by omega))))
      rw [et2] at ih2
      refine ih2 _ (fun I2 ys2 f2 p2 m2 l2 t2 o2 => ?_)
      simp (disch := omega) only [q_234_0, q_234_1, q_234_2, q_234_3, q_234_4, q_234_7, q_234_8, q_234_9, q_234_10, q_234_11, q_234_12, q_234_13, q_234_14, q_234_15, q_234_17, q_234_18, q_234_20, q_234_21, q_234_22, q_234_23, q_234_26, q_234_27, q_234_28, q_234_29, q_234_32, q_234_33, q_234_37, q_234_38, q_234_41, q_234_43, q_234_44, q_234_47, q_234_49, q_234_50, q_234_53, q_234_54, q_234_55, q_234_58, q_234_60, q_234_61, q_234_62, q_234_65, q_234_67, q_234_68, q_234_71, q_234_74, q_234_75, q_234_78, q_234_81, q_234_82, q_234_85, q_234_87, q_234_89, q_234_92, q_234_93, q_234_96, q_234_98, q_234_99, q_234_102, q_234_103, q_234_106, q_234_108, q_234_109, q_234_110, q_234_112, q_234_115, q_234_118, q_234_121, q_234_124, q_234_127, q_234_130, q_234_131, q_234_135, q_234_136, q_234_139, q_234_140, q_234_143, q_234_145, q_234_146, q_234_149, q_234_151, q_234_152, q_234_153, q_234_156, q_234_159, va_rf_s, bz_0, bz_1, bz_ok, bb_ok, Nat.add_assoc, w_lt, w_add, w_sub, w_mul, w_div, em_def, w_eq, w_inT, ↓ilt_t, ↓ilt_f, ↓ieq_t, ↓ieq_f, ntT, w_b, w_ix, kx_v, kx_n, kl_n, kl_i, kl_r, kl_o, inA_i, inA_s, inA_b, inA_z, inA_l, inA_0, inA_4, inA_5, inA_6, inA_7, inA_8, inA_9, inA_10, al_0, al_1, al_2, al_4, al_5, al_98, bsP_2, bsP_3, wr_same, wr_wr, wr_ne, up_same, up_ne, Nat.reduceAdd, Int.reduceAdd, Int.reduceSub, Int.reduceMul, Int.reduceLT, Int.reduceLE, Int.reduceEq, Int.reduceNeg, Int.reduceToNat, Nat.reduceLT, Nat.reduceLeDiff, Nat.reduceEqDiff, ↓reduceIte, true_and, and_true, not_true_eq_false, not_false_eq_true, eq_self, or_true, true_or, or_false, false_or, if_true, if_false, Int.toNat_natCast, w_ite, Nat.add_zero, reduceCtorEq, ne_eq]
      have t12 : Txt (I2 (m + 6677)) fr (zl ys1) := Txt_congr t1 (fun j j1 j2 => o2 j (Or.inl (by rw [zl_len] at j2; omega)))
      have hd1 : ∀ n ∈ ys1, Dm n := fun n hn => hdm n (List.mem_of_mem_take ((m1 n).mp hn))
      have hd2 : ∀ n ∈ ys2, Dm n := fun n hn => hdm n (List.mem_of_mem_drop ((m2 n).mp hn))
      have hmsrt : (mg (kle tx) ys1 ys2).Pairwise (klt tx) := mg_srt ys1 ys2 p1 p2 (fun x hx y hy => hcross x ((m1 x).mp hx) y ((m2 y).mp hy))
      have hmlen : (mg (kle tx) ys1 ys2).length = xs.length := by rw [mg_len, l1, l2]; omega
      have hmmem : ∀ z, z ∈ mg (kle tx) ys1 ys2 ↔ z ∈ xs := fun z => by
        rw [mg_mem, m1, m2, ← List.mem_append, List.take_append_drop]
      -- back from the half
      have cp : ∀ (j e : Nat) (I3 : MI) (o4 : Option Value) (b5 : Int32) (o7 : Option Value), e + j = xs.length → (∀ x, x ≠ m + 6677 → I3 x = wr I2 (m + 6676) (pw (I2 (m + 6676)) fr (zl (mg (kle tx) ys1 ys2))) x) → (∀ j, (j < fr ∨ fr + e ≤ j) → I3 (m + 6677) j = I2 (m + 6677) j) → Txt (I3 (m + 6677)) fr ((zl (mg (kle tx) ys1 ys2)).take e) → XX (e1' + 1 + 2) 234 133 [some (.ref m), some (.int (w fr)), some (.int (w (fr + xs.length : Nat))), some (.int (w mid)), o4, some (.int b5), some (.int (w (fr + e : Nat))), o7] [] (mk S I3 L R G) Q := by
        intro j
        induction j with
        | zero =>
          intro e I3 o4 b5 o7 he g3 g4 gT
          have : e = xs.length := by omega
          subst this
          rw [q_234_133]
          simp (disch := omega) only [q_234_0, q_234_1, q_234_2, q_234_3, q_234_4, q_234_7, q_234_8, q_234_9, q_234_10, q_234_11, q_234_12, q_234_13, q_234_14, q_234_15, q_234_17, q_234_18, q_234_20, q_234_21, q_234_22, q_234_23, q_234_26, q_234_27, q_234_28, q_234_29, q_234_32, q_234_33, q_234_37, q_234_38, q_234_41, q_234_43, q_234_44, q_234_47, q_234_49, q_234_50, q_234_53, q_234_54, q_234_55, q_234_58, q_234_60, q_234_61, q_234_62, q_234_65, q_234_67, q_234_68, q_234_71, q_234_74, q_234_75, q_234_78, q_234_81, q_234_82, q_234_85, q_234_87, q_234_89, q_234_92, q_234_93, q_234_96, q_234_98, q_234_99, q_234_102, q_234_103, q_234_106, q_234_108, q_234_109, q_234_110, q_234_112, q_234_115, q_234_118, q_234_121, q_234_124, q_234_127, q_234_130, q_234_131, q_234_135, q_234_136, q_234_139, q_234_140, q_234_143, q_234_145, q_234_146, q_234_149, q_234_151, q_234_152, q_234_153, q_234_156, q_234_159, va_rf_s, bz_0, bz_1, bz_ok, bb_ok, Nat.add_assoc, w_lt, w_add, w_sub, w_mul, w_div, em_def, w_eq, w_inT, ↓ilt_t, ↓ilt_f, ↓ieq_t, ↓ieq_f, ntT, w_b, w_ix, kx_v, kx_n, kl_n, kl_i, kl_r, kl_o, inA_i, inA_s, inA_b, inA_z, inA_l, inA_0, inA_4, inA_5, inA_6, inA_7, inA_8, inA_9, inA_10, al_0, al_1, al_2, al_4, al_5, al_98, bsP_2, bsP_3, wr_same, wr_wr, wr_ne, up_same, up_ne, Nat.reduceAdd, Int.reduceAdd, Int.reduceSub, Int.reduceMul, Int.reduceLT, Int.reduceLE, Int.reduceEq, Int.reduceNeg, Int.reduceToNat, Nat.reduceLT, Nat.reduceLeDiff, Nat.reduceEqDiff, ↓reduceIte, true_and, and_true, not_true_eq_false, not_false_eq_true, eq_self, or_true, true_or, or_false, false_or, if_true, if_false, Int.toNat_natCast, w_ite, Nat.add_zero, reduceCtorEq, ne_eq]
          rw [List.take_of_length_le (by rw [zl_len]; omega)] at gT
          refine hQ I3 (mg (kle tx) ys1 ys2) (fun x h1 h2 => by rw [g3 x h1, wr_ne h2, f2 x h1 h2]) hmsrt hmmem hmlen gT (fun j hj => ?_)
          rw [g4 j hj, o2 j (by omega), o1 j (by omega)]
        | succ j jh =>
          intro e I3 o4 b5 o7 he g3 g4 gT
          have hel : e < (zl (mg (kle tx) ys1 ys2)).length := by rw [zl_len]; omega
          have eh : I3 (m + 6676) (fr + e) = w ((zl (mg (kle tx) ys1 ys2)).getD e 0) := by
            rw [g3 _ (by omega), wr_same]
            exact pw_txt _ _ _ e hel
          have v1 : ∀ x, x ≠ m + 6677 → wr I3 (m + 6677) (up (I3 (m + 6677)) (fr + e) (w ((zl (mg (kle tx) ys1 ys2)).getD e 0))) x = I3 x := fun x hx => wr_ne hx
          have v2 : wr I3 (m + 6677) (up (I3 (m + 6677)) (fr + e) (w ((zl (mg (kle tx) ys1 ys2)).getD e 0))) (m + 6677) = up (I3 (m + 6677)) (fr + e) (w ((zl (mg (kle tx) ys1 ys2)).getD e 0)) := wr_same
          rw [q_234_133]
          simp (disch := omega) only [q_234_0, q_234_1, q_234_2, q_234_3, q_234_4, q_234_7, q_234_8, q_234_9, q_234_10, q_234_11, q_234_12, q_234_13, q_234_14, q_234_15, q_234_17, q_234_18, q_234_20, q_234_21, q_234_22, q_234_23, q_234_26, q_234_27, q_234_28, q_234_29, q_234_32, q_234_33, q_234_37, q_234_38, q_234_41, q_234_43, q_234_44, q_234_47, q_234_49, q_234_50, q_234_53, q_234_54, q_234_55, q_234_58, q_234_60, q_234_61, q_234_62, q_234_65, q_234_67, q_234_68, q_234_71, q_234_74, q_234_75, q_234_78, q_234_81, q_234_82, q_234_85, q_234_87, q_234_89, q_234_92, q_234_93, q_234_96, q_234_98, q_234_99, q_234_102, q_234_103, q_234_106, q_234_108, q_234_109, q_234_110, q_234_112, q_234_115, q_234_118, q_234_121, q_234_124, q_234_127, q_234_130, q_234_131, q_234_135, q_234_136, q_234_139, q_234_140, q_234_143, q_234_145, q_234_146, q_234_149, q_234_151, q_234_152, q_234_153, q_234_156, q_234_159, va_rf_s, bz_0, bz_1, bz_ok, bb_ok, Nat.add_assoc, w_lt, w_add, w_sub, w_mul, w_div, em_def, w_eq, w_inT, ↓ilt_t, ↓ilt_f, ↓ieq_t, ↓ieq_f, ntT, w_b, w_ix, kx_v, kx_n, kl_n, kl_i, kl_r, kl_o, inA_i, inA_s, inA_b, inA_z, inA_l, inA_0, inA_4, inA_5, inA_6, inA_7, inA_8, inA_9, inA_10, al_0, al_1, al_2, al_4, al_5, al_98, bsP_2, bsP_3, wr_same, wr_wr, wr_ne, up_same, up_ne, Nat.reduceAdd, Int.reduceAdd, Int.reduceSub, Int.reduceMul, Int.reduceLT, Int.reduceLE, Int.reduceEq, Int.reduceNeg, Int.reduceToNat, Nat.reduceLT, Nat.reduceLeDiff, Nat.reduceEqDiff, ↓reduceIte, true_and, and_true, not_true_eq_false, not_false_eq_true, eq_self, or_true, true_or, or_false, false_or, if_true, if_false, Int.toNat_natCast, w_ite, Nat.add_zero, reduceCtorEq, ne_eq, hm, hS1, hS2, eh]
          generalize wr I3 (m + 6677) (up (I3 (m + 6677)) (fr + e) (w ((zl (mg (kle tx) ys1 ys2)).getD e 0))) = I4 at v1 v2 ⊢
          have hsn : (zl (mg (kle tx) ys1 ys2)).take (e + 1) = (zl (mg (kle tx) ys1 ys2)).take e ++ [(zl (mg (kle tx) ys1 ys2)).getD e 0] := by
            rw [List.take_add_one, List.getD_eq_getElem?_getD, List.getElem?_eq_getElem hel]; rfl
          have jh' := jh (e + 1) I4 o4 b5 o7 (by omega) (fun x hx => by rw [v1 x hx]; exact g3 x hx) (fun j hj => by rw [v2, up_ne (by omega)]; exact g4 j (by omega)) (by
            rw [hsn, v2]
            have := Txt_snoc (x := (zl (mg (kle tx) ys1 ys2)).getD e 0) gT
            rw [List.length_take, Nat.min_eq_left (by omega)] at this
            exact this)
          rw [show fr + (e + 1) = fr + e + 1 by omega] at jh'
          simp only [Int.natCast_add, Int.natCast_one] at jh' ⊢
          exact jh'
      -- the two halves merged
      have lpm : ∀ (N' : Nat) (as bs : List Nat) (l r e : Nat) (g : Nat → Int32) (o : Option Value), as.length + bs.length = N' → (∀ n ∈ as, Dm n) → (∀ n ∈ bs, Dm n) → Txt (I2 (m + 6677)) l (zl as) → Txt (I2 (m + 6677)) r (zl bs) → l + as.length = mid → r + bs.length = fr + xs.length → e + N' = fr + xs.length → pw g e (zl (mg (kle tx) as bs)) = pw (I2 (m + 6676)) fr (zl (mg (kle tx) ys1 ys2)) → XX (e1' + 1 + 2) 234 35 [some (.ref m), some (.int (w fr)), some (.int (w (fr + xs.length : Nat))), some (.int (w mid)), some (.int (w l)), some (.int (w r)), some (.int (w e)), o] [] (mk S (wr I2 (m + 6676) g) L R G) Q := by
        intro N'
        induction N' with
        | zero =>
          intro as bs l r e g o hN' ha hb ta tb e1 e2 e3 hg
          have h1 : as = [] := List.eq_nil_of_length_eq_zero (by omega)
          have h2 : bs = [] := List.eq_nil_of_length_eq_zero (by omega)
          subst h1 h2
          rw [mg_nil, show zl [] = [] from rfl, pw_nil] at hg
          rw [q_234_35]
          simp (disch := omega) only [q_234_0, q_234_1, q_234_2, q_234_3, q_234_4, q_234_7, q_234_8, q_234_9, q_234_10, q_234_11, q_234_12, q_234_13, q_234_14, q_234_15, q_234_17, q_234_18, q_234_20, q_234_21, q_234_22, q_234_23, q_234_26, q_234_27, q_234_28, q_234_29, q_234_32, q_234_33, q_234_37, q_234_38, q_234_41, q_234_43, q_234_44, q_234_47, q_234_49, q_234_50, q_234_53, q_234_54, q_234_55, q_234_58, q_234_60, q_234_61, q_234_62, q_234_65, q_234_67, q_234_68, q_234_71, q_234_74, q_234_75, q_234_78, q_234_81, q_234_82, q_234_85, q_234_87, q_234_89, q_234_92, q_234_93, q_234_96, q_234_98, q_234_99, q_234_102, q_234_103, q_234_106, q_234_108, q_234_109, q_234_110, q_234_112, q_234_115, q_234_118, q_234_121, q_234_124, q_234_127, q_234_130, q_234_131, q_234_135, q_234_136, q_234_139, q_234_140, q_234_143, q_234_145, q_234_146, q_234_149, q_234_151, q_234_152, q_234_153, q_234_156, q_234_159, va_rf_s, bz_0, bz_1, bz_ok, bb_ok, Nat.add_assoc, w_lt, w_add, w_sub, w_mul, w_div, em_def, w_eq, w_inT, ↓ilt_t, ↓ilt_f, ↓ieq_t, ↓ieq_f, ntT, w_b, w_ix, kx_v, kx_n, kl_n, kl_i, kl_r, kl_o, inA_i, inA_s, inA_b, inA_z, inA_l, inA_0, inA_4, inA_5, inA_6, inA_7, inA_8, inA_9, inA_10, al_0, al_1, al_2, al_4, al_5, al_98, bsP_2, bsP_3, wr_same, wr_wr, wr_ne, up_same, up_ne, Nat.reduceAdd, Int.reduceAdd, Int.reduceSub, Int.reduceMul, Int.reduceLT, Int.reduceLE, Int.reduceEq, Int.reduceNeg, Int.reduceToNat, Nat.reduceLT, Nat.reduceLeDiff, Nat.reduceEqDiff, ↓reduceIte, true_and, and_true, not_true_eq_false, not_false_eq_true, eq_self, or_true, true_or, or_false, false_or, if_true, if_false, Int.toNat_natCast, w_ite, Nat.add_zero, reduceCtorEq, ne_eq]
          rw [hg]
          have := cp xs.length 0 (wr I2 (m + 6676) (pw (I2 (m + 6676)) fr (zl (mg (kle tx) ys1 ys2)))) (some (.int (w l))) (w r) o (by omega) (fun _ _ => rfl) (fun j _ => by rw [wr_ne (by omega)]) (fun i hi => by rw [List.take_zero] at hi; exact nomatch hi)
          rw [Nat.add_zero] at this
          exact this
        | succ N' nh =>
          intro as bs l r e g o hN' ha hb ta tb e1 e2 e3 hg
          have hbase : ∀ x, x ≠ m + 6677 → x ≠ m + 6676 → wr I2 (m + 6676) g x = I x := fun x h1 h2 => by rw [wr_ne h2]; exact f2 x h1 h2
          have hA2 : wr I2 (m + 6676) g (m + 6677) = I2 (m + 6677) := wr_ne (by omega)
          have tl : ∀ x as', as = x :: as' → mg (kle tx) as bs = x :: mg (kle tx) as' bs → XX (e1' + 1 + 2) 234 79 [some (.ref m), some (.int (w fr)), some (.int (w (fr + xs.length : Nat))), some (.int (w mid)), some (.int (w l)), some (.int (w r)), some (.int (w e)), o] [.int (w 1)] (mk S (wr I2 (m + 6676) g) L R G) Q := by
            intro x as' ea em
            rw [em] at hg
            subst ea
            rw [List.length_cons] at hN' e1
            have t1 := Txt.head (f := I2 (m + 6677)) (p := l) (x := (x : Int)) (s := zl as') ta
            have hxd := hD x (ha x (List.mem_cons_self ..))
            have nh' := nh as' bs (l + 1) r (e + 1) (up g e (w x)) (some (.int (w 1))) (by omega) (fun n hn => ha n (List.mem_cons_of_mem _ hn)) hb t1.2 tb (by omega) e2 (by omega) (by rw [pw_cons]; exact hg)
            simp only [Int.natCast_add, Int.natCast_one] at nh'
            have ex := t1.1
            rw [q_234_79]
            simp (disch := omega) only [q_234_0, q_234_1, q_234_2, q_234_3, q_234_4, q_234_7, q_234_8, q_234_9, q_234_10, q_234_11, q_234_12, q_234_13, q_234_14, q_234_15, q_234_17, q_234_18, q_234_20, q_234_21, q_234_22, q_234_23, q_234_26, q_234_27, q_234_28, q_234_29, q_234_32, q_234_33, q_234_37, q_234_38, q_234_41, q_234_43, q_234_44, q_234_47, q_234_49, q_234_50, q_234_53, q_234_54, q_234_55, q_234_58, q_234_60, q_234_61, q_234_62, q_234_65, q_234_67, q_234_68, q_234_71, q_234_74, q_234_75, q_234_78, q_234_81, q_234_82, q_234_85, q_234_87, q_234_89, q_234_92, q_234_93, q_234_96, q_234_98, q_234_99, q_234_102, q_234_103, q_234_106, q_234_108, q_234_109, q_234_110, q_234_112, q_234_115, q_234_118, q_234_121, q_234_124, q_234_127, q_234_130, q_234_131, q_234_135, q_234_136, q_234_139, q_234_140, q_234_143, q_234_145, q_234_146, q_234_149, q_234_151, q_234_152, q_234_153, q_234_156, q_234_159, va_rf_s, bz_0, bz_1, bz_ok, bb_ok, Nat.add_assoc, w_lt, w_add, w_sub, w_mul, w_div, em_def, w_eq, w_inT, ↓ilt_t, ↓ilt_f, ↓ieq_t, ↓ieq_f, ntT, w_b, w_ix, kx_v, kx_n, kl_n, kl_i, kl_r, kl_o, inA_i, inA_s, inA_b, inA_z, inA_l, inA_0, inA_4, inA_5, inA_6, inA_7, inA_8, inA_9, inA_10, al_0, al_1, al_2, al_4, al_5, al_98, bsP_2, bsP_3, wr_same, wr_wr, wr_ne, up_same, up_ne, Nat.reduceAdd, Int.reduceAdd, Int.reduceSub, Int.reduceMul, Int.reduceLT, Int.reduceLE, Int.reduceEq, Int.reduceNeg, Int.reduceToNat, Nat.reduceLT, Nat.reduceLeDiff, Nat.reduceEqDiff, ↓reduceIte, true_and, and_true, not_true_eq_false, not_false_eq_true, eq_self, or_true, true_or, or_false, false_or, if_true, if_false, Int.toNat_natCast, w_ite, Nat.add_zero, reduceCtorEq, ne_eq, hm, hS1, hS2, ex, Int.natCast_add]
            exact nh'
          have tr : ∀ y bs', bs = y :: bs' → mg (kle tx) as bs = y :: mg (kle tx) as bs' → XX (e1' + 1 + 2) 234 79 [some (.ref m), some (.int (w fr)), some (.int (w (fr + xs.length : Nat))), some (.int (w mid)), some (.int (w l)), some (.int (w r)), some (.int (w e)), o] [.int (w 0)] (mk S (wr I2 (m + 6676) g) L R G) Q := by
            intro y bs' ea em
            rw [em] at hg
            subst ea
            rw [List.length_cons] at hN' e2
            have t1 := Txt.head (f := I2 (m + 6677)) (p := r) (x := (y : Int)) (s := zl bs') tb
            have hxd := hD y (hb y (List.mem_cons_self ..))
            have nh' := nh as bs' l (r + 1) (e + 1) (up g e (w y)) (some (.int (w 0))) (by omega) ha (fun n hn => hb n (List.mem_cons_of_mem _ hn)) ta t1.2 e1 (by omega) (by omega) (by rw [pw_cons]; exact hg)
            simp only [Int.natCast_add, Int.natCast_one] at nh'
            have ex := t1.1
            rw [q_234_79]
            simp (disch := omega) only [q_234_0, q_234_1, q_234_2, q_234_3, q_234_4, q_234_7, q_234_8, q_234_9, q_234_10, q_234_11, q_234_12, q_234_13, q_234_14, q_234_15, q_234_17, q_234_18, q_234_20, q_234_21, q_234_22, q_234_23, q_234_26, q_234_27, q_234_28, q_234_29, q_234_32, q_234_33, q_234_37, q_234_38, q_234_41, q_234_43, q_234_44, q_234_47, q_234_49, q_234_50, q_234_53, q_234_54, q_234_55, q_234_58, q_234_60, q_234_61, q_234_62, q_234_65, q_234_67, q_234_68, q_234_71, q_234_74, q_234_75, q_234_78, q_234_81, q_234_82, q_234_85, q_234_87, q_234_89, q_234_92, q_234_93, q_234_96, q_234_98, q_234_99, q_234_102, q_234_103, q_234_106, q_234_108, q_234_109, q_234_110, q_234_112, q_234_115, q_234_118, q_234_121, q_234_124, q_234_127, q_234_130, q_234_131, q_234_135, q_234_136, q_234_139, q_234_140, q_234_143, q_234_145, q_234_146, q_234_149, q_234_151, q_234_152, q_234_153, q_234_156, q_234_159, va_rf_s, bz_0, bz_1, bz_ok, bb_ok, Nat.add_assoc, w_lt, w_add, w_sub, w_mul, w_div, em_def, w_eq, w_inT, ↓ilt_t, ↓ilt_f, ↓ieq_t, ↓ieq_f, ntT, w_b, w_ix, kx_v, kx_n, kl_n, kl_i, kl_r, kl_o, inA_i, inA_s, inA_b, inA_z, inA_l, inA_0, inA_4, inA_5, inA_6, inA_7, inA_8, inA_9, inA_10, al_0, al_1, al_2, al_4, al_5, al_98, bsP_2, bsP_3, wr_same, wr_wr, wr_ne, up_same, up_ne, Nat.reduceAdd, Int.reduceAdd, Int.reduceSub, Int.reduceMul, Int.reduceLT, Int.reduceLE, Int.reduceEq, Int.reduceNeg, Int.reduceToNat, Nat.reduceLT, Nat.reduceLeDiff, Nat.reduceEqDiff, ↓reduceIte, true_and, and_true, not_true_eq_false, not_false_eq_true, eq_self, or_true, true_or, or_false, false_or, if_true, if_false, Int.toNat_natCast, w_ite, Nat.add_zero, reduceCtorEq, ne_eq, hm, hS1, hS2, ex, Int.natCast_add]
            exact nh'
          rw [q_234_35]
          cases bs with
          | nil =>
            cases as with
            | nil => exact absurd hN' (by simp)
            | cons x as' =>
              have t := tl x as' rfl (by rw [mg_nil2, mg_nil2])
              simp only [List.length_cons, List.length_nil, Nat.add_zero] at e1 e2 hN'
              simp (disch := omega) only [q_234_0, q_234_1, q_234_2, q_234_3, q_234_4, q_234_7, q_234_8, q_234_9, q_234_10, q_234_11, q_234_12, q_234_13, q_234_14, q_234_15, q_234_17, q_234_18, q_234_20, q_234_21, q_234_22, q_234_23, q_234_26, q_234_27, q_234_28, q_234_29, q_234_32, q_234_33, q_234_37, q_234_38, q_234_41, q_234_43, q_234_44, q_234_47, q_234_49, q_234_50, q_234_53, q_234_54, q_234_55, q_234_58, q_234_60, q_234_61, q_234_62, q_234_65, q_234_67, q_234_68, q_234_71, q_234_74, q_234_75, q_234_78, q_234_81, q_234_82, q_234_85, q_234_87, q_234_89, q_234_92, q_234_93, q_234_96, q_234_98, q_234_99, q_234_102, q_234_103, q_234_106, q_234_108, q_234_109, q_234_110, q_234_112, q_234_115, q_234_118, q_234_121, q_234_124, q_234_127, q_234_130, q_234_131, q_234_135, q_234_136, q_234_139, q_234_140, q_234_143, q_234_145, q_234_146, q_234_149, q_234_151, q_234_152, q_234_153, q_234_156, q_234_159, va_rf_s, bz_0, bz_1, bz_ok, bb_ok, Nat.add_assoc, w_lt, w_add, w_sub, w_mul, w_div, em_def, w_eq, w_inT, ↓ilt_t, ↓ilt_f, ↓ieq_t, ↓ieq_f, ntT, w_b, w_ix, kx_v, kx_n, kl_n, kl_i, kl_r, kl_o, inA_i, inA_s, inA_b, inA_z, inA_l, inA_0, inA_4, inA_5, inA_6, inA_7, inA_8, inA_9, inA_10, al_0, al_1, al_2, al_4, al_5, al_98, bsP_2, bsP_3, wr_same, wr_wr, wr_ne, up_same, up_ne, Nat.reduceAdd, Int.reduceAdd, Int.reduceSub, Int.reduceMul, Int.reduceLT, Int.reduceLE, Int.reduceEq, Int.reduceNeg, Int.reduceToNat, Nat.reduceLT, Nat.reduceLeDiff, Nat.reduceEqDiff, ↓reduceIte, true_and, and_true, not_true_eq_false, not_false_eq_true, eq_self, or_true, true_or, or_false, false_or, if_true, if_false, Int.toNat_natCast, w_ite, Nat.add_zero, reduceCtorEq, ne_eq]
              exact t
          | cons y bs' =>
            cases as with
            | nil =>
              have t := tr y bs' rfl (by rw [mg_nil, mg_nil])
              simp only [List.length_cons, List.length_nil, Nat.add_zero] at e1 e2 hN'
              simp (disch := omega) only [q_234_0, q_234_1, q_234_2, q_234_3, q_234_4, q_234_7, q_234_8, q_234_9, q_234_10, q_234_11, q_234_12, q_234_13, q_234_14, q_234_15, q_234_17, q_234_18, q_234_20, q_234_21, q_234_22, q_234_23, q_234_26, q_234_27, q_234_28, q_234_29, q_234_32, q_234_33, q_234_37, q_234_38, q_234_41, q_234_43, q_234_44, q_234_47, q_234_49, q_234_50, q_234_53, q_234_54, q_234_55, q_234_58, q_234_60, q_234_61, q_234_62, q_234_65, q_234_67, q_234_68, q_234_71, q_234_74, q_234_75, q_234_78, q_234_81, q_234_82, q_234_85, q_234_87, q_234_89, q_234_92, q_234_93, q_234_96, q_234_98, q_234_99, q_234_102, q_234_103, q_234_106, q_234_108, q_234_109, q_234_110, q_234_112, q_234_115, q_234_118, q_234_121, q_234_124, q_234_127, q_234_130, q_234_131, q_234_135, q_234_136, q_234_139, q_234_140, q_234_143, q_234_145, q_234_146, q_234_149, q_234_151, q_234_152, q_234_153, q_234_156, q_234_159, va_rf_s, bz_0, bz_1, bz_ok, bb_ok, Nat.add_assoc, w_lt, w_add, w_sub, w_mul, w_div, em_def, w_eq, w_inT, ↓ilt_t, ↓ilt_f, ↓ieq_t, ↓ieq_f, ntT, w_b, w_ix, kx_v, kx_n, kl_n, kl_i, kl_r, kl_o, inA_i, inA_s, inA_b, inA_z, inA_l, inA_0, inA_4, inA_5, inA_6, inA_7, inA_8, inA_9, inA_10, al_0, al_1, al_2, al_4, al_5, al_98, bsP_2, bsP_3, wr_same, wr_wr, wr_ne, up_same, up_ne, Nat.reduceAdd, Int.reduceAdd, Int.reduceSub, Int.reduceMul, Int.reduceLT, Int.reduceLE, Int.reduceEq, Int.reduceNeg, Int.reduceToNat, Nat.reduceLT, Nat.reduceLeDiff, Nat.reduceEqDiff, ↓reduceIte, true_and, and_true, not_true_eq_false, not_false_eq_true, eq_self, or_true, true_or, or_false, false_or, if_true, if_false, Int.toNat_natCast, w_ite, Nat.add_zero, reduceCtorEq, ne_eq]
              exact t
            | cons x as' =>
              have hdx := ha x (List.mem_cons_self ..)
              have hdy := hb y (List.mem_cons_self ..)
              have scm := hcmp (wr I2 (m + 6676) g) x y hbase hdx hdy
              have hlb := hlx x y hdx hdy
              have ex1 := (Txt.head (f := I2 (m + 6677)) (p := l) (x := (x : Int)) (s := zl as') ta).1
              have ex2 := (Txt.head (f := I2 (m + 6677)) (p := r) (x := (y : Int)) (s := zl bs') tb).1
              have tl' := tl x as' rfl
              have tr' := tr y bs' rfl
              rw [mg_cons] at tl' tr'
              simp only [List.length_cons] at e1 e2 hN'
              simp (disch := omega) only [q_234_0, q_234_1, q_234_2, q_234_3, q_234_4, q_234_7, q_234_8, q_234_9, q_234_10, q_234_11, q_234_12, q_234_13, q_234_14, q_234_15, q_234_17, q_234_18, q_234_20, q_234_21, q_234_22, q_234_23, q_234_26, q_234_27, q_234_28, q_234_29, q_234_32, q_234_33, q_234_37, q_234_38, q_234_41, q_234_43, q_234_44, q_234_47, q_234_49, q_234_50, q_234_53, q_234_54, q_234_55, q_234_58, q_234_60, q_234_61, q_234_62, q_234_65, q_234_67, q_234_68, q_234_71, q_234_74, q_234_75, q_234_78, q_234_81, q_234_82, q_234_85, q_234_87, q_234_89, q_234_92, q_234_93, q_234_96, q_234_98, q_234_99, q_234_102, q_234_103, q_234_106, q_234_108, q_234_109, q_234_110, q_234_112, q_234_115, q_234_118, q_234_121, q_234_124, q_234_127, q_234_130, q_234_131, q_234_135, q_234_136, q_234_139, q_234_140, q_234_143, q_234_145, q_234_146, q_234_149, q_234_151, q_234_152, q_234_153, q_234_156, q_234_159, va_rf_s, bz_0, bz_1, bz_ok, bb_ok, Nat.add_assoc, w_lt, w_add, w_sub, w_mul, w_div, em_def, w_eq, w_inT, ↓ilt_t, ↓ilt_f, ↓ieq_t, ↓ieq_f, ntT, w_b, w_ix, kx_v, kx_n, kl_n, kl_i, kl_r, kl_o, inA_i, inA_s, inA_b, inA_z, inA_l, inA_0, inA_4, inA_5, inA_6, inA_7, inA_8, inA_9, inA_10, al_0, al_1, al_2, al_4, al_5, al_98, bsP_2, bsP_3, wr_same, wr_wr, wr_ne, up_same, up_ne, Nat.reduceAdd, Int.reduceAdd, Int.reduceSub, Int.reduceMul, Int.reduceLT, Int.reduceLE, Int.reduceEq, Int.reduceNeg, Int.reduceToNat, Nat.reduceLT, Nat.reduceLeDiff, Nat.reduceEqDiff, ↓reduceIte, true_and, and_true, not_true_eq_false, not_false_eq_true, eq_self, or_true, true_or, or_false, false_or, if_true, if_false, Int.toNat_natCast, w_ite, Nat.add_zero, reduceCtorEq, ne_eq, hm, hS1, ex1, ex2, scm]
              by_cases c : lexc (tx x) (tx y) ≤ 0
              · have ck : kle (tx) x y = true := by unfold kle; exact decide_eq_true c
                rw [if_pos ck] at tl'
                rw [if_neg (by omega)]
                exact tl' rfl
              · have ck : ¬ kle (tx) x y = true := by unfold kle; simpa using c
                rw [if_neg ck] at tr'
                rw [if_pos (by omega)]
                exact tr' rfl
      have := lpm xs.length ys1 ys2 fr mid fr (I2 (m + 6676)) none (by rw [l1, l2]; omega) hd1 hd2 t12 t2 (by rw [l1]; omega) (by rw [l2]; omega) rfl rfl
      rw [wr_self] at this
      exact this
end

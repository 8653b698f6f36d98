/-! the model's reader: items -/
def ItsM (I : MI) (a b0 : Nat) (its : List It) : Prop := ∀ i, i < its.length → ItM I a (b0 + i) i (its.getD i d0)
def PiF (I I' : MI) (m a b0 : Nat) : Prop := (∀ x, x ≠ m → x ≠ a → (x < b0 ∨ b0 + 6 ≤ x) → I' x = I x) ∧ (∀ j, j ≠ 4 → j ≠ 6 → j ≠ 7 → I' m j = I m j) ∧ ∀ j, j < 4 → I' a j = I a j
theorem PiF.refl {I : MI} {m a b0 : Nat} : PiF I I m a b0 := ⟨fun _ _ _ _ => rfl, fun _ _ _ _ => rfl, fun _ _ => rfl⟩
theorem PiF.trans {I I1 I2 : MI} {m a b0 : Nat} (h : PiF I I1 m a b0) (h' : PiF I1 I2 m a b0) : PiF I I2 m a b0 := ⟨fun x h1 h2 h3 => (h'.1 x h1 h2 h3).trans (h.1 x h1 h2 h3), fun j j1 j2 j3 => (h'.2.1 j j1 j2 j3).trans (h.2.1 j j1 j2 j3), fun j hj => (h'.2.2 j hj).trans (h.2.2 j hj)⟩
theorem PmF.pi {I I' : MI} {m a b0 : Nat} (h : PmF I I' m) (ha : a ≠ m) : PiF I I' m a b0 := ⟨fun x h1 _ _ => h.1 x h1, h.2, fun j _ => by rw [h.1 a ha]⟩
theorem kdH_6 {b : Int} : kdH b = 6 ↔ b = 126 := by
  unfold kdH
  by_cases e1 : b = 47
  · rw [if_pos e1]; omega
  · rw [if_neg e1]
    by_cases e2 : b = 37
    · rw [if_pos e2]; omega
    · rw [if_neg e2]
      by_cases e3 : b = 35
      · rw [if_pos e3]; omega
      · rw [if_neg e3]
        by_cases e4 : b = 45
        · rw [if_pos e4]; omega
        · rw [if_neg e4]
          by_cases e5 : b = 43
          · rw [if_pos e5]; omega
          · rw [if_neg e5]
            by_cases e6 : b = 126
            · rw [if_pos e6]; omega
            · rw [if_neg e6]; split <;> omega
section
variable {d : Nat} {Q : XO → Hp → Prop} {S : SH} {I : MI} {L : ML} {R : MR} {G : MG} {A : Hp}
variable {m : Nat} {t : List Int}
/-- after a fault -/
theorem sp_171e {p i a bb b0 : Nat} {g : Int32} {e : Int × Int} (hL : MLay S R m) (h : PM I m t p e) (he : e.1 ≠ 0) (hi : i ≤ 7) (ham : a ≠ m) (ha2 : a ≠ m + 2) (ha : S a = some (.inl (0, 17)))
    (hQ : ∀ (I' : MI) (p' : Nat), PiF I I' m a b0 → PM I' m t p' e → Q (.inl none) (mk S I' L R G)) :
    XX (d + 5) 171 5 [some (.ref m), some (.ref a), some (.ref bb), some (.int (w i)), some (.int g)] [] (mk S I L R G) Q := by
  have hm := hL.1
  have s160 := fun {d : Nat} {Q : XO → Hp → Prop} => sp_160f (d := d) (Q := Q) (L := L) (G := G) hL h he
  -- the tail
  have tl2 : ∀ (I1 : MI) (p1 : Nat), PiF I I1 m a b0 → PM I1 m t p1 e → XX (d + 5) 171 102 [some (.ref m), some (.ref a), some (.ref bb), some (.int (w i)), some (.int g)] [] (mk S I1 L R G) Q := by
    intro I1 p1 hF1 hP1
    have s161 := fun {d : Nat} {Q : XO → Hp → Prop} {k q : Int32} => sp_161f (d := d) (Q := Q) (L := L) (G := G) (k := k) (q := q) hL hP1 he
    have u1 : ∀ x, x ≠ a → wr I1 a (up (I1 a) 4 (w i)) x = I1 x := fun x hx => wr_ne hx
    have hP2 : PM (wr I1 a (up (I1 a) 4 (w i))) m t p1 e := hP1.keep (u1 m (by omega)) (u1 _ (by omega))
    have s168 := fun {d : Nat} {Q : XO → Hp → Prop} => sp_168f (d := d) (Q := Q) (L := L) (G := G) hL hP2 he
    have := hQ _ p1 (hF1.trans ⟨fun x h1 h2 h3 => u1 x h2, fun j _ _ _ => by rw [u1 m (by omega)], fun j hj => by rw [wr_same, up_ne (by omega)]⟩) hP2
    have t2 : XX (d + 5) 171 115 [some (.ref m), some (.ref a), some (.ref bb), some (.int (w i)), some (.int g)] [] (mk S I1 L R G) Q := by
      rw [q_171_115]
      simp (disch := omega) only [q_171_0, q_171_1, q_171_2, q_171_3, q_171_6, q_171_9, q_171_12, q_171_13, q_171_16, q_171_19, q_171_20, q_171_23, q_171_24, q_171_26, q_171_29, q_171_30, q_171_31, q_171_32, q_171_35, q_171_38, q_171_39, q_171_42, q_171_45, q_171_46, q_171_47, q_171_50, q_171_52, q_171_55, q_171_56, q_171_59, q_171_62, q_171_63, q_171_65, q_171_66, q_171_67, q_171_68, q_171_69, q_171_70, q_171_71, q_171_71o, q_171_74, q_171_77, q_171_80, q_171_81, q_171_84, q_171_85, q_171_88, q_171_90, q_171_94, q_171_95, q_171_96, q_171_99, q_171_102, q_171_104, q_171_105, q_171_108, q_171_109, q_171_110, q_171_112, q_171_116, q_171_117, q_171_118, q_171_119, q_171_120, q_171_123, q_171_e, va_rf_s, bz_0, bz_1, bz_ok, bb_ok, Nat.add_assoc, w_lt, w_add, w_sub, w_mul, w_div, em_def, w_eq, w_inT, ↓ilt_t, ↓ilt_f, ↓ieq_t, ↓ieq_f, ntT, w_b, w_ix, kx_v, kx_n, kl_n, kl_i, kl_r, kl_o, inA_i, inA_s, inA_b, inA_z, inA_l, inA_0, inA_4, inA_5, inA_6, inA_7, inA_8, inA_9, inA_10, al_0, al_1, al_2, al_4, al_5, al_98, bsP_2, bsP_3, wr_same, wr_wr, wr_ne, up_same, up_ne, Nat.reduceAdd, Int.reduceAdd, Int.reduceSub, Int.reduceMul, Int.reduceLT, Int.reduceLE, Int.reduceEq, Int.reduceNeg, Int.reduceToNat, Nat.reduceLT, Nat.reduceLeDiff, Nat.reduceEqDiff, ↓reduceIte, true_and, and_true, not_true_eq_false, not_false_eq_true, eq_self, or_true, true_or, or_false, false_or, if_true, if_false, Int.toNat_natCast, w_ite, Nat.add_zero, reduceCtorEq, ne_eq, hm, ha, s168]
      exact this
    rw [q_171_102]
    simp (disch := omega) only [q_171_0, q_171_1, q_171_2, q_171_3, q_171_6, q_171_9, q_171_12, q_171_13, q_171_16, q_171_19, q_171_20, q_171_23, q_171_24, q_171_26, q_171_29, q_171_30, q_171_31, q_171_32, q_171_35, q_171_38, q_171_39, q_171_42, q_171_45, q_171_46, q_171_47, q_171_50, q_171_52, q_171_55, q_171_56, q_171_59, q_171_62, q_171_63, q_171_65, q_171_66, q_171_67, q_171_68, q_171_69, q_171_70, q_171_71, q_171_71o, q_171_74, q_171_77, q_171_80, q_171_81, q_171_84, q_171_85, q_171_88, q_171_90, q_171_94, q_171_95, q_171_96, q_171_99, q_171_102, q_171_104, q_171_105, q_171_108, q_171_109, q_171_110, q_171_112, q_171_116, q_171_117, q_171_118, q_171_119, q_171_120, q_171_123, q_171_e, va_rf_s, bz_0, bz_1, bz_ok, bb_ok, Nat.add_assoc, w_lt, w_add, w_sub, w_mul, w_div, em_def, w_eq, w_inT, ↓ilt_t, ↓ilt_f, ↓ieq_t, ↓ieq_f, ntT, w_b, w_ix, kx_v, kx_n, kl_n, kl_i, kl_r, kl_o, inA_i, inA_s, inA_b, inA_z, inA_l, inA_0, inA_4, inA_5, inA_6, inA_7, inA_8, inA_9, inA_10, al_0, al_1, al_2, al_4, al_5, al_98, bsP_2, bsP_3, wr_same, wr_wr, wr_ne, up_same, up_ne, Nat.reduceAdd, Int.reduceAdd, Int.reduceSub, Int.reduceMul, Int.reduceLT, Int.reduceLE, Int.reduceEq, Int.reduceNeg, Int.reduceToNat, Nat.reduceLT, Nat.reduceLeDiff, Nat.reduceEqDiff, ↓reduceIte, true_and, and_true, not_true_eq_false, not_false_eq_true, eq_self, or_true, true_or, or_false, false_or, if_true, if_false, Int.toNat_natCast, w_ite, Nat.add_zero, reduceCtorEq, ne_eq, hm, s161]
    split
    · exact t2
    · exact t2
  have tl : ∀ (I1 : MI) (p1 : Nat), PiF I I1 m a b0 → PM I1 m t p1 e → XX (d + 5) 171 93 [some (.ref m), some (.ref a), some (.ref bb), some (.int (w i)), some (.int g)] [] (mk S I1 L R G) Q := by
    intro I1 p1 hF1 hP1
    have s161 := fun {d : Nat} {Q : XO → Hp → Prop} {k q : Int32} => sp_161f (d := d) (Q := Q) (L := L) (G := G) (k := k) (q := q) hL hP1 he
    have t2 := tl2 I1 p1 hF1 hP1
    have e44 := hP1.2.2.2.2.1
    rw [q_171_93]
    simp (disch := omega) only [q_171_0, q_171_1, q_171_2, q_171_3, q_171_6, q_171_9, q_171_12, q_171_13, q_171_16, q_171_19, q_171_20, q_171_23, q_171_24, q_171_26, q_171_29, q_171_30, q_171_31, q_171_32, q_171_35, q_171_38, q_171_39, q_171_42, q_171_45, q_171_46, q_171_47, q_171_50, q_171_52, q_171_55, q_171_56, q_171_59, q_171_62, q_171_63, q_171_65, q_171_66, q_171_67, q_171_68, q_171_69, q_171_70, q_171_71, q_171_71o, q_171_74, q_171_77, q_171_80, q_171_81, q_171_84, q_171_85, q_171_88, q_171_90, q_171_94, q_171_95, q_171_96, q_171_99, q_171_104, q_171_105, q_171_108, q_171_109, q_171_110, q_171_112, q_171_115, q_171_116, q_171_117, q_171_118, q_171_119, q_171_120, q_171_123, q_171_e, va_rf_s, bz_0, bz_1, bz_ok, bb_ok, Nat.add_assoc, w_lt, w_add, w_sub, w_mul, w_div, em_def, w_eq, w_inT, ↓ilt_t, ↓ilt_f, ↓ieq_t, ↓ieq_f, ntT, w_b, w_ix, kx_v, kx_n, kl_n, kl_i, kl_r, kl_o, inA_i, inA_s, inA_b, inA_z, inA_l, inA_0, inA_4, inA_5, inA_6, inA_7, inA_8, inA_9, inA_10, al_0, al_1, al_2, al_4, al_5, al_98, bsP_2, bsP_3, wr_same, wr_wr, wr_ne, up_same, up_ne, Nat.reduceAdd, Int.reduceAdd, Int.reduceSub, Int.reduceMul, Int.reduceLT, Int.reduceLE, Int.reduceEq, Int.reduceNeg, Int.reduceToNat, Nat.reduceLT, Nat.reduceLeDiff, Nat.reduceEqDiff, ↓reduceIte, true_and, and_true, not_true_eq_false, not_false_eq_true, eq_self, or_true, true_or, or_false, false_or, if_true, if_false, Int.toNat_natCast, w_ite, Nat.add_zero, reduceCtorEq, ne_eq, hm, e44, s161]
    exact t2
  rw [q_171_5]
  by_cases c0 : i = 0
  · have := tl I p PiF.refl h
    simp (disch := omega) only [q_171_0, q_171_1, q_171_2, q_171_3, q_171_6, q_171_9, q_171_12, q_171_13, q_171_16, q_171_19, q_171_20, q_171_23, q_171_24, q_171_26, q_171_29, q_171_30, q_171_31, q_171_32, q_171_35, q_171_38, q_171_39, q_171_42, q_171_45, q_171_46, q_171_47, q_171_50, q_171_52, q_171_55, q_171_56, q_171_59, q_171_62, q_171_63, q_171_65, q_171_66, q_171_67, q_171_68, q_171_69, q_171_70, q_171_71, q_171_71o, q_171_74, q_171_77, q_171_80, q_171_81, q_171_84, q_171_85, q_171_88, q_171_90, q_171_94, q_171_95, q_171_96, q_171_99, q_171_104, q_171_105, q_171_108, q_171_109, q_171_110, q_171_112, q_171_115, q_171_116, q_171_117, q_171_118, q_171_119, q_171_120, q_171_123, q_171_e, va_rf_s, bz_0, bz_1, bz_ok, bb_ok, Nat.add_assoc, w_lt, w_add, w_sub, w_mul, w_div, em_def, w_eq, w_inT, ↓ilt_t, ↓ilt_f, ↓ieq_t, ↓ieq_f, ntT, w_b, w_ix, kx_v, kx_n, kl_n, kl_i, kl_r, kl_o, inA_i, inA_s, inA_b, inA_z, inA_l, inA_0, inA_4, inA_5, inA_6, inA_7, inA_8, inA_9, inA_10, al_0, al_1, al_2, al_4, al_5, al_98, bsP_2, bsP_3, wr_same, wr_wr, wr_ne, up_same, up_ne, Nat.reduceAdd, Int.reduceAdd, Int.reduceSub, Int.reduceMul, Int.reduceLT, Int.reduceLE, Int.reduceEq, Int.reduceNeg, Int.reduceToNat, Nat.reduceLT, Nat.reduceLeDiff, Nat.reduceEqDiff, ↓reduceIte, true_and, and_true, not_true_eq_false, not_false_eq_true, eq_self, or_true, true_or, or_false, false_or, if_true, if_false, Int.toNat_natCast, w_ite, Nat.add_zero, reduceCtorEq, ne_eq, hm, s160]
    exact this
  · simp (disch := omega) only [q_171_0, q_171_1, q_171_2, q_171_3, q_171_6, q_171_9, q_171_12, q_171_13, q_171_16, q_171_19, q_171_20, q_171_23, q_171_24, q_171_26, q_171_29, q_171_30, q_171_31, q_171_32, q_171_35, q_171_38, q_171_39, q_171_42, q_171_45, q_171_46, q_171_47, q_171_50, q_171_52, q_171_55, q_171_56, q_171_59, q_171_62, q_171_63, q_171_65, q_171_66, q_171_67, q_171_68, q_171_69, q_171_70, q_171_71, q_171_71o, q_171_74, q_171_77, q_171_80, q_171_81, q_171_84, q_171_85, q_171_88, q_171_90, q_171_94, q_171_95, q_171_96, q_171_99, q_171_104, q_171_105, q_171_108, q_171_109, q_171_110, q_171_112, q_171_115, q_171_116, q_171_117, q_171_118, q_171_119, q_171_120, q_171_123, q_171_e, va_rf_s, bz_0, bz_1, bz_ok, bb_ok, Nat.add_assoc, w_lt, w_add, w_sub, w_mul, w_div, em_def, w_eq, w_inT, ↓ilt_t, ↓ilt_f, ↓ieq_t, ↓ieq_f, ntT, w_b, w_ix, kx_v, kx_n, kl_n, kl_i, kl_r, kl_o, inA_i, inA_s, inA_b, inA_z, inA_l, inA_0, inA_4, inA_5, inA_6, inA_7, inA_8, inA_9, inA_10, al_0, al_1, al_2, al_4, al_5, al_98, bsP_2, bsP_3, wr_same, wr_wr, wr_ne, up_same, up_ne, Nat.reduceAdd, Int.reduceAdd, Int.reduceSub, Int.reduceMul, Int.reduceLT, Int.reduceLE, Int.reduceEq, Int.reduceNeg, Int.reduceToNat, Nat.reduceLT, Nat.reduceLeDiff, Nat.reduceEqDiff, ↓reduceIte, true_and, and_true, not_true_eq_false, not_false_eq_true, eq_self, or_true, true_or, or_false, false_or, if_true, if_false, Int.toNat_natCast, w_ite, Nat.add_zero, reduceCtorEq, ne_eq, hm, s160]
    refine sp_159 hL h (fun I1 hF1 hP1 => ?_)
    have hbb := hP1.bd (skb t p)
    have t1 := tl I1 _ (hF1.pi ham) hP1
    have t2 := tl2 I1 _ (hF1.pi ham) hP1
    generalize bt t (skb t p) = b at *
    simp (disch := omega) only [q_171_0, q_171_1, q_171_2, q_171_3, q_171_6, q_171_9, q_171_12, q_171_13, q_171_16, q_171_19, q_171_20, q_171_23, q_171_24, q_171_26, q_171_29, q_171_30, q_171_31, q_171_32, q_171_35, q_171_38, q_171_39, q_171_42, q_171_45, q_171_46, q_171_47, q_171_50, q_171_52, q_171_55, q_171_56, q_171_59, q_171_62, q_171_63, q_171_65, q_171_66, q_171_67, q_171_68, q_171_69, q_171_70, q_171_71, q_171_71o, q_171_74, q_171_77, q_171_80, q_171_81, q_171_84, q_171_85, q_171_88, q_171_90, q_171_94, q_171_95, q_171_96, q_171_99, q_171_104, q_171_105, q_171_108, q_171_109, q_171_110, q_171_112, q_171_115, q_171_116, q_171_117, q_171_118, q_171_119, q_171_120, q_171_123, q_171_e, va_rf_s, bz_0, bz_1, bz_ok, bb_ok, Nat.add_assoc, w_lt, w_add, w_sub, w_mul, w_div, em_def, w_eq, w_inT, ↓ilt_t, ↓ilt_f, ↓ieq_t, ↓ieq_f, ntT, w_b, w_ix, kx_v, kx_n, kl_n, kl_i, kl_r, kl_o, inA_i, inA_s, inA_b, inA_z, inA_l, inA_0, inA_4, inA_5, inA_6, inA_7, inA_8, inA_9, inA_10, al_0, al_1, al_2, al_4, al_5, al_98, bsP_2, bsP_3, wr_same, wr_wr, wr_ne, up_same, up_ne, Nat.reduceAdd, Int.reduceAdd, Int.reduceSub, Int.reduceMul, Int.reduceLT, Int.reduceLE, Int.reduceEq, Int.reduceNeg, Int.reduceToNat, Nat.reduceLT, Nat.reduceLeDiff, Nat.reduceEqDiff, ↓reduceIte, true_and, and_true, not_true_eq_false, not_false_eq_true, eq_self, or_true, true_or, or_false, false_or, if_true, if_false, Int.toNat_natCast, w_ite, Nat.add_zero, reduceCtorEq, ne_eq]
    split
    · exact t2
    · exact t1
theorem sp_171 {k p a bb b0 : Nat} (hL : MLay S R m) (hk : k < 30) (ea : a = m + 69 + k) (ebb : bb = m + 1267 + 7 * k) (eb0 : b0 = m + 1268 + 7 * k) (h : PM I m t p (0, -1))
    (hQ1 : ∀ its q, pItems t 7 [] none p = .inl (its, q) → ∀ I' : MI, PiF I I' m a b0 → PM I' m t q (0, -1) → ItsM I' a b0 its → I' a 4 = w its.length → Q (.inl none) (mk S I' L R G))
    (hQ0 : ∀ kk q, pItems t 7 [] none p = .inr (kk, q) → ∀ (I' : MI) (p' : Nat), PiF I I' m a b0 → PM I' m t p' (kk, (q : Int)) → Q (.inl none) (mk S I' L R G)) :
    XC (d + 5) 171 [.ref m, .ref a, .ref bb] (mk S I L R G) Q := by
  have hm := hL.1
  have hR2 := (hL.2.2.2.2.2.1.2 2 (by decide)).2.2 k hk
  have hW2 := (hL.2.2.2.2.2.2.1.2 2 (by decide)).2.2 k hk
  have ha : S a = some (.inl (0, 17)) := by rw [← hR2.2]; congr 1 <;> omega
  have hSb : S bb = some (.inl (8, 6)) := by rw [← hW2.2.1]; congr 1 <;> omega
  have hRb : ∀ i, i < 6 → R bb i = some (b0 + i) ∧ S (b0 + i) = some (.inl (2, 8)) := fun i hi => by
    obtain ⟨w1, w2⟩ := hW2.2.2 i hi
    have e1 : m + 845 + 211 * 2 + 7 * k = bb := by omega
    have e2 : m + 846 + 211 * 2 + 7 * k + i = b0 + i := by omega
    rw [e1, e2] at w1
    rw [e2] at w2
    exact ⟨w1, w2⟩
  have lp : ∀ (f q : Nat) (its : List It) (gl : Option Nat) (I1 : MI), its.length + f = 7 → its.length ≤ 6 → (∀ it ∈ its, 0 ≤ it.1 ∧ it.1 ≤ 6) → (∀ g, gl = some g → g ≤ 400) → (gl = none ∨ its ≠ []) → (its ≠ [] → ((its.getD (its.length - 1) d0).1 = 6 ↔ gl ≠ none)) → pItems t f its gl q = pItems t 7 [] none p → PiF I I1 m a b0 → PM I1 m t q (0, -1) → ItsM I1 a b0 its → XX (d + 5) 171 5 [some (.ref m), some (.ref a), some (.ref bb), some (.int (w its.length)), some (.int (w (gz gl)))] [] (mk S I1 L R G) Q := by
    intro f
    induction f with
    | zero =>
      intro q its gl I1 hf h6
      omega
    | succ f ih =>
      intro q its gl I1 hf h6 hk6 hgl hgn hgk hres hF hP hIt
      have s160 := fun {d : Nat} {Q : XO → Hp → Prop} => sp_160t (d := d) (Q := Q) (L := L) (G := G) hL hP
      have h40 := hP.2.2.1
      have hgz : -1 ≤ gz gl ∧ gz gl ≤ 400 := by
        cases gl with
        | none => exact ⟨by decide, by decide⟩
        | some g => have := hgl g rfl; unfold gz; dsimp only; omega
      rw [q_171_5]
      simp (disch := omega) only [q_171_0, q_171_1, q_171_2, q_171_3, q_171_6, q_171_9, q_171_12, q_171_13, q_171_16, q_171_19, q_171_20, q_171_23, q_171_24, q_171_26, q_171_29, q_171_30, q_171_31, q_171_32, q_171_35, q_171_38, q_171_39, q_171_42, q_171_45, q_171_46, q_171_47, q_171_50, q_171_52, q_171_55, q_171_56, q_171_59, q_171_62, q_171_63, q_171_65, q_171_66, q_171_67, q_171_68, q_171_69, q_171_70, q_171_71, q_171_71o, q_171_74, q_171_77, q_171_81, q_171_84, q_171_85, q_171_88, q_171_90, q_171_93, q_171_94, q_171_95, q_171_96, q_171_99, q_171_102, q_171_104, q_171_105, q_171_108, q_171_109, q_171_110, q_171_112, q_171_115, q_171_116, q_171_117, q_171_118, q_171_119, q_171_120, q_171_123, q_171_e, va_rf_s, bz_0, bz_1, bz_ok, bb_ok, Nat.add_assoc, w_lt, w_add, w_sub, w_mul, w_div, em_def, w_eq, w_inT, ↓ilt_t, ↓ilt_f, ↓ieq_t, ↓ieq_f, ntT, w_b, w_ix, kx_v, kx_n, kl_n, kl_i, kl_r, kl_o, inA_i, inA_s, inA_b, inA_z, inA_l, inA_0, inA_4, inA_5, inA_6, inA_7, inA_8, inA_9, inA_10, al_0, al_1, al_2, al_4, al_5, al_98, bsP_2, bsP_3, wr_same, wr_wr, wr_ne, up_same, up_ne, Nat.reduceAdd, Int.reduceAdd, Int.reduceSub, Int.reduceMul, Int.reduceLT, Int.reduceLE, Int.reduceEq, Int.reduceNeg, Int.reduceToNat, Nat.reduceLT, Nat.reduceLeDiff, Nat.reduceEqDiff, ↓reduceIte, true_and, and_true, not_true_eq_false, not_false_eq_true, eq_self, or_true, true_or, or_false, false_or, if_true, if_false, Int.toNat_natCast, w_ite, Nat.add_zero, reduceCtorEq, ne_eq, hm, s160]
      refine sp_159 hL hP (fun I2 hF2 hP2 => ?_)
      have hbb := hP2.bd (skb t q)
      have e442 := hP2.2.2.2.2.1
      have hsl := hP2.2.2.2.2.2.1
      have hIt2 : ItsM I2 a b0 its := fun i hi => by
        unfold ItM
        rw [hF2.1 a (by omega), hF2.1 (b0 + i) (by omega)]
        exact hIt i hi
      have hFF := hF.trans (hF2.pi (b0 := b0) (show a ≠ m by omega))
      have s169 := fun {d : Nat} {Q : XO → Hp → Prop} {A : Hp} => sp_169 (d := d) (Q := Q) (A := A) (c := bt t (skb t q)) (by omega) (by omega)
      have hkd := kdH_bd (b := bt t (skb t q))
      have hss : skb t (skb t q) = skb t q := skb_skb
      unfold pItems at hres
      by_cases ck : kdH (bt t (skb t q)) = -1
      · -- no item begins here
        have e80 : XX (d + 5) 171 80 [some (.ref m), some (.ref a), some (.ref bb), some (.int (w its.length)), some (.int (w (gz gl)))] [] (mk S I2 L R G) Q := by
          -- a fault of kind 1
          have f93 : ¬ (bt t (skb t q) = 59 ∧ its ≠ []) → ∀ I3 : MI, PiF I I3 m a b0 → PM I3 m t (skb t q) (0, -1) → XX (d + 5) 171 93 [some (.ref m), some (.ref a), some (.ref bb), some (.int (w its.length)), some (.int (w (gz gl)))] [] (mk S I3 L R G) Q := by
            intro hno I3 hF3 hP3
            rw [if_neg hno, if_pos ck] at hres
            have e443 := hP3.2.2.2.2.1
            rw [q_171_93]
            simp (disch := omega) only [q_171_0, q_171_1, q_171_2, q_171_3, q_171_6, q_171_9, q_171_12, q_171_13, q_171_16, q_171_19, q_171_20, q_171_23, q_171_24, q_171_26, q_171_29, q_171_30, q_171_31, q_171_32, q_171_35, q_171_38, q_171_39, q_171_42, q_171_45, q_171_46, q_171_47, q_171_50, q_171_52, q_171_55, q_171_56, q_171_59, q_171_62, q_171_63, q_171_65, q_171_66, q_171_67, q_171_68, q_171_69, q_171_70, q_171_71, q_171_71o, q_171_74, q_171_77, q_171_81, q_171_84, q_171_85, q_171_88, q_171_90, q_171_94, q_171_95, q_171_96, q_171_99, q_171_102, q_171_104, q_171_105, q_171_108, q_171_109, q_171_110, q_171_112, q_171_116, q_171_117, q_171_118, q_171_119, q_171_120, q_171_123, q_171_e, va_rf_s, bz_0, bz_1, bz_ok, bb_ok, Nat.add_assoc, w_lt, w_add, w_sub, w_mul, w_div, em_def, w_eq, w_inT, ↓ilt_t, ↓ilt_f, ↓ieq_t, ↓ieq_f, ntT, w_b, w_ix, kx_v, kx_n, kl_n, kl_i, kl_r, kl_o, inA_i, inA_s, inA_b, inA_z, inA_l, inA_0, inA_4, inA_5, inA_6, inA_7, inA_8, inA_9, inA_10, al_0, al_1, al_2, al_4, al_5, al_98, bsP_2, bsP_3, wr_same, wr_wr, wr_ne, up_same, up_ne, Nat.reduceAdd, Int.reduceAdd, Int.reduceSub, Int.reduceMul, Int.reduceLT, Int.reduceLE, Int.reduceEq, Int.reduceNeg, Int.reduceToNat, Nat.reduceLT, Nat.reduceLeDiff, Nat.reduceEqDiff, ↓reduceIte, true_and, and_true, not_true_eq_false, not_false_eq_true, eq_self, or_true, true_or, or_false, false_or, if_true, if_false, Int.toNat_natCast, w_ite, Nat.add_zero, reduceCtorEq, ne_eq, hm, e443]
            refine sp_161t hL hP3 (by decide) (fun I4 hF4 hP4 => ?_)
            have u1 : ∀ x, x ≠ a → wr I4 a (up (I4 a) 4 (w its.length)) x = I4 x := fun x hx => wr_ne hx
            have hP5 : PM (wr I4 a (up (I4 a) 4 (w its.length))) m t (skb t q) (1, (skb t q : Int)) := hP4.keep (u1 m (by omega)) (u1 _ (by omega))
            have s168 := fun {d : Nat} {Q : XO → Hp → Prop} => sp_168f (d := d) (Q := Q) (L := L) (G := G) hL hP5 one_ne
            have s161 := fun {d : Nat} {Q : XO → Hp → Prop} {k q : Int32} => sp_161f (d := d) (Q := Q) (L := L) (G := G) (k := k) (q := q) hL hP4 one_ne
            have := hQ0 1 (skb t q) hres.symm _ _ ((hF3.trans (hF4.pi (by omega))).trans ⟨fun x h1 h2 h3 => u1 x h2, fun j _ _ _ => by rw [u1 m (by omega)], fun j hj => by rw [wr_same, up_ne (by omega)]⟩) hP5
            have t2 : XX (d + 5) 171 115 [some (.ref m), some (.ref a), some (.ref bb), some (.int (w its.length)), some (.int (w (gz gl)))] [] (mk S I4 L R G) Q := by
              rw [q_171_115]
              simp (disch := omega) only [q_171_0, q_171_1, q_171_2, q_171_3, q_171_6, q_171_9, q_171_12, q_171_13, q_171_16, q_171_19, q_171_20, q_171_23, q_171_24, q_171_26, q_171_29, q_171_30, q_171_31, q_171_32, q_171_35, q_171_38, q_171_39, q_171_42, q_171_45, q_171_46, q_171_47, q_171_50, q_171_52, q_171_55, q_171_56, q_171_59, q_171_62, q_171_63, q_171_65, q_171_66, q_171_67, q_171_68, q_171_69, q_171_70, q_171_71, q_171_71o, q_171_74, q_171_77, q_171_80, q_171_81, q_171_84, q_171_85, q_171_88, q_171_90, q_171_94, q_171_95, q_171_96, q_171_99, q_171_102, q_171_104, q_171_105, q_171_108, q_171_109, q_171_110, q_171_112, q_171_116, q_171_117, q_171_118, q_171_119, q_171_120, q_171_123, q_171_e, va_rf_s, bz_0, bz_1, bz_ok, bb_ok, Nat.add_assoc, w_lt, w_add, w_sub, w_mul, w_div, em_def, w_eq, w_inT, ↓ilt_t, ↓ilt_f, ↓ieq_t, ↓ieq_f, ntT, w_b, w_ix, kx_v, kx_n, kl_n, kl_i, kl_r, kl_o, inA_i, inA_s, inA_b, inA_z, inA_l, inA_0, inA_4, inA_5, inA_6, inA_7, inA_8, inA_9, inA_10, al_0, al_1, al_2, al_4, al_5, al_98, bsP_2, bsP_3, wr_same, wr_wr, wr_ne, up_same, up_ne, Nat.reduceAdd, Int.reduceAdd, Int.reduceSub, Int.reduceMul, Int.reduceLT, Int.reduceLE, Int.reduceEq, Int.reduceNeg, Int.reduceToNat, Nat.reduceLT, Nat.reduceLeDiff, Nat.reduceEqDiff, ↓reduceIte, true_and, and_true, not_true_eq_false, not_false_eq_true, eq_self, or_true, true_or, or_false, false_or, if_true, if_false, Int.toNat_natCast, w_ite, Nat.add_zero, reduceCtorEq, ne_eq, hm, ha, s168]
              exact this
            simp (disch := omega) only [q_171_0, q_171_1, q_171_2, q_171_3, q_171_6, q_171_9, q_171_12, q_171_13, q_171_16, q_171_19, q_171_20, q_171_23, q_171_24, q_171_26, q_171_29, q_171_30, q_171_31, q_171_32, q_171_35, q_171_38, q_171_39, q_171_42, q_171_45, q_171_46, q_171_47, q_171_50, q_171_52, q_171_55, q_171_56, q_171_59, q_171_62, q_171_63, q_171_65, q_171_66, q_171_67, q_171_68, q_171_69, q_171_70, q_171_71, q_171_71o, q_171_74, q_171_77, q_171_81, q_171_84, q_171_85, q_171_88, q_171_90, q_171_94, q_171_95, q_171_96, q_171_99, q_171_102, q_171_104, q_171_105, q_171_108, q_171_109, q_171_110, q_171_112, q_171_116, q_171_117, q_171_118, q_171_119, q_171_120, q_171_123, q_171_e, va_rf_s, bz_0, bz_1, bz_ok, bb_ok, Nat.add_assoc, w_lt, w_add, w_sub, w_mul, w_div, em_def, w_eq, w_inT, ↓ilt_t, ↓ilt_f, ↓ieq_t, ↓ieq_f, ntT, w_b, w_ix, kx_v, kx_n, kl_n, kl_i, kl_r, kl_o, inA_i, inA_s, inA_b, inA_z, inA_l, inA_0, inA_4, inA_5, inA_6, inA_7, inA_8, inA_9, inA_10, al_0, al_1, al_2, al_4, al_5, al_98, bsP_2, bsP_3, wr_same, wr_wr, wr_ne, up_same, up_ne, Nat.reduceAdd, Int.reduceAdd, Int.reduceSub, Int.reduceMul, Int.reduceLT, Int.reduceLE, Int.reduceEq, Int.reduceNeg, Int.reduceToNat, Nat.reduceLT, Nat.reduceLeDiff, Nat.reduceEqDiff, ↓reduceIte, true_and, and_true, not_true_eq_false, not_false_eq_true, eq_self, or_true, true_or, or_false, false_or, if_true, if_false, Int.toNat_natCast, w_ite, Nat.add_zero, reduceCtorEq, ne_eq, hm, s161]
            split
            · exact t2
            · exact t2
          rw [q_171_80]
          by_cases c0 : its = []
          · have := f93 (fun h => h.2 c0) I2 hFF hP2
            have el : its.length = 0 := by rw [c0]; rfl
            simp (disch := omega) only [q_171_0, q_171_1, q_171_2, q_171_3, q_171_6, q_171_9, q_171_12, q_171_13, q_171_16, q_171_19, q_171_20, q_171_23, q_171_24, q_171_26, q_171_29, q_171_30, q_171_31, q_171_32, q_171_35, q_171_38, q_171_39, q_171_42, q_171_45, q_171_46, q_171_47, q_171_50, q_171_52, q_171_55, q_171_56, q_171_59, q_171_62, q_171_63, q_171_65, q_171_66, q_171_67, q_171_68, q_171_69, q_171_70, q_171_71, q_171_71o, q_171_74, q_171_77, q_171_81, q_171_84, q_171_85, q_171_88, q_171_90, q_171_94, q_171_95, q_171_96, q_171_99, q_171_102, q_171_104, q_171_105, q_171_108, q_171_109, q_171_110, q_171_112, q_171_116, q_171_117, q_171_118, q_171_119, q_171_120, q_171_123, q_171_e, va_rf_s, bz_0, bz_1, bz_ok, bb_ok, Nat.add_assoc, w_lt, w_add, w_sub, w_mul, w_div, em_def, w_eq, w_inT, ↓ilt_t, ↓ilt_f, ↓ieq_t, ↓ieq_f, ntT, w_b, w_ix, kx_v, kx_n, kl_n, kl_i, kl_r, kl_o, inA_i, inA_s, inA_b, inA_z, inA_l, inA_0, inA_4, inA_5, inA_6, inA_7, inA_8, inA_9, inA_10, al_0, al_1, al_2, al_4, al_5, al_98, bsP_2, bsP_3, wr_same, wr_wr, wr_ne, up_same, up_ne, Nat.reduceAdd, Int.reduceAdd, Int.reduceSub, Int.reduceMul, Int.reduceLT, Int.reduceLE, Int.reduceEq, Int.reduceNeg, Int.reduceToNat, Nat.reduceLT, Nat.reduceLeDiff, Nat.reduceEqDiff, ↓reduceIte, true_and, and_true, not_true_eq_false, not_false_eq_true, eq_self, or_true, true_or, or_false, false_or, if_true, if_false, Int.toNat_natCast, w_ite, Nat.add_zero, reduceCtorEq, ne_eq]
            exact this
          · have el : its.length ≠ 0 := fun h => c0 (List.eq_nil_of_length_eq_zero h)
            simp (disch := omega) only [q_171_0, q_171_1, q_171_2, q_171_3, q_171_6, q_171_9, q_171_12, q_171_13, q_171_16, q_171_19, q_171_20, q_171_23, q_171_24, q_171_26, q_171_29, q_171_30, q_171_31, q_171_32, q_171_35, q_171_38, q_171_39, q_171_42, q_171_45, q_171_46, q_171_47, q_171_50, q_171_52, q_171_55, q_171_56, q_171_59, q_171_62, q_171_63, q_171_65, q_171_66, q_171_67, q_171_68, q_171_69, q_171_70, q_171_71, q_171_71o, q_171_74, q_171_77, q_171_81, q_171_84, q_171_85, q_171_88, q_171_90, q_171_94, q_171_95, q_171_96, q_171_99, q_171_104, q_171_105, q_171_108, q_171_109, q_171_110, q_171_112, q_171_115, q_171_116, q_171_117, q_171_118, q_171_119, q_171_120, q_171_123, q_171_e, va_rf_s, bz_0, bz_1, bz_ok, bb_ok, Nat.add_assoc, w_lt, w_add, w_sub, w_mul, w_div, em_def, w_eq, w_inT, ↓ilt_t, ↓ilt_f, ↓ieq_t, ↓ieq_f, ntT, w_b, w_ix, kx_v, kx_n, kl_n, kl_i, kl_r, kl_o, inA_i, inA_s, inA_b, inA_z, inA_l, inA_0, inA_4, inA_5, inA_6, inA_7, inA_8, inA_9, inA_10, al_0, al_1, al_2, al_4, al_5, al_98, bsP_2, bsP_3, wr_same, wr_wr, wr_ne, up_same, up_ne, Nat.reduceAdd, Int.reduceAdd, Int.reduceSub, Int.reduceMul, Int.reduceLT, Int.reduceLE, Int.reduceEq, Int.reduceNeg, Int.reduceToNat, Nat.reduceLT, Nat.reduceLeDiff, Nat.reduceEqDiff, ↓reduceIte, true_and, and_true, not_true_eq_false, not_false_eq_true, eq_self, or_true, true_or, or_false, false_or, if_true, if_false, Int.toNat_natCast, w_ite, Nat.add_zero, reduceCtorEq, ne_eq, hm]
            refine sp_159 hL hP2 (fun I3 hF3 hP3 => ?_)
            rw [hss] at hP3 ⊢
            have hF3' := hFF.trans (hF3.pi (b0 := b0) (show a ≠ m by omega))
            have hIt3 : ItsM I3 a b0 its := fun i hi => by
              unfold ItM
              rw [hF3.1 a (by omega), hF3.1 (b0 + i) (by omega)]
              exact hIt2 i hi
            by_cases c59 : bt t (skb t q) = 59
            · rw [if_pos ⟨c59, c0⟩] at hres
              rw [c59]
              cases gl with
              | none =>
                dsimp only at hres
                have u1 : ∀ x, x ≠ a → wr I3 a (up (I3 a) 4 (w its.length)) x = I3 x := fun x hx => wr_ne hx
                have hP4 : PM (wr I3 a (up (I3 a) 4 (w its.length))) m t (skb t q) (0, -1) := hP3.keep (u1 m (by omega)) (u1 _ (by omega))
                simp (disch := omega) only [q_171_0, q_171_1, q_171_2, q_171_3, q_171_6, q_171_9, q_171_12, q_171_13, q_171_16, q_171_19, q_171_20, q_171_23, q_171_24, q_171_26, q_171_29, q_171_30, q_171_31, q_171_32, q_171_35, q_171_38, q_171_39, q_171_42, q_171_45, q_171_46, q_171_47, q_171_50, q_171_52, q_171_55, q_171_56, q_171_59, q_171_62, q_171_63, q_171_65, q_171_66, q_171_67, q_171_68, q_171_69, q_171_70, q_171_71, q_171_71o, q_171_74, q_171_77, q_171_81, q_171_84, q_171_85, q_171_88, q_171_90, q_171_94, q_171_95, q_171_96, q_171_99, q_171_102, q_171_104, q_171_105, q_171_108, q_171_109, q_171_110, q_171_112, q_171_115, q_171_116, q_171_117, q_171_118, q_171_119, q_171_120, q_171_123, q_171_e, va_rf_s, bz_0, bz_1, bz_ok, bb_ok, Nat.add_assoc, w_lt, w_add, w_sub, w_mul, w_div, em_def, w_eq, w_inT, ↓ilt_t, ↓ilt_f, ↓ieq_t, ↓ieq_f, ntT, w_b, w_ix, kx_v, kx_n, kl_n, kl_i, kl_r, kl_o, inA_i, inA_s, inA_b, inA_z, inA_l, inA_0, inA_4, inA_5, inA_6, inA_7, inA_8, inA_9, inA_10, al_0, al_1, al_2, al_4, al_5, al_98, bsP_2, bsP_3, wr_same, wr_wr, wr_ne, up_same, up_ne, Nat.reduceAdd, Int.reduceAdd, Int.reduceSub, Int.reduceMul, Int.reduceLT, Int.reduceLE, Int.reduceEq, Int.reduceNeg, Int.reduceToNat, Nat.reduceLT, Nat.reduceLeDiff, Nat.reduceEqDiff, ↓reduceIte, true_and, and_true, not_true_eq_false, not_false_eq_true, eq_self, or_true, true_or, or_false, false_or, if_true, if_false, Int.toNat_natCast, w_ite, Nat.add_zero, reduceCtorEq, ne_eq, hm, ha, gz]
                refine sp_168 hL hP4 (fun h59 I5 hF5 hP5 => ?_) (fun h59 => ?_)
                · rw [hss] at hP5
                  simp (disch := omega) only [q_171_0, q_171_1, q_171_2, q_171_3, q_171_6, q_171_9, q_171_12, q_171_13, q_171_16, q_171_19, q_171_20, q_171_23, q_171_24, q_171_26, q_171_29, q_171_30, q_171_31, q_171_32, q_171_35, q_171_38, q_171_39, q_171_42, q_171_45, q_171_46, q_171_47, q_171_50, q_171_52, q_171_55, q_171_56, q_171_59, q_171_62, q_171_63, q_171_65, q_171_66, q_171_67, q_171_68, q_171_69, q_171_70, q_171_71, q_171_71o, q_171_74, q_171_77, q_171_81, q_171_84, q_171_85, q_171_88, q_171_90, q_171_94, q_171_95, q_171_96, q_171_99, q_171_102, q_171_104, q_171_105, q_171_108, q_171_109, q_171_110, q_171_112, q_171_115, q_171_116, q_171_117, q_171_118, q_171_119, q_171_120, q_171_123, q_171_e, va_rf_s, bz_0, bz_1, bz_ok, bb_ok, Nat.add_assoc, w_lt, w_add, w_sub, w_mul, w_div, em_def, w_eq, w_inT, ↓ilt_t, ↓ilt_f, ↓ieq_t, ↓ieq_f, ntT, w_b, w_ix, kx_v, kx_n, kl_n, kl_i, kl_r, kl_o, inA_i, inA_s, inA_b, inA_z, inA_l, inA_0, inA_4, inA_5, inA_6, inA_7, inA_8, inA_9, inA_10, al_0, al_1, al_2, al_4, al_5, al_98, bsP_2, bsP_3, wr_same, wr_wr, wr_ne, up_same, up_ne, Nat.reduceAdd, Int.reduceAdd, Int.reduceSub, Int.reduceMul, Int.reduceLT, Int.reduceLE, Int.reduceEq, Int.reduceNeg, Int.reduceToNat, Nat.reduceLT, Nat.reduceLeDiff, Nat.reduceEqDiff, ↓reduceIte, true_and, and_true, not_true_eq_false, not_false_eq_true, eq_self, or_true, true_or, or_false, false_or, if_true, if_false, Int.toNat_natCast, w_ite, Nat.add_zero, reduceCtorEq, ne_eq]
                  refine hQ1 its _ hres.symm I5 ((hF3'.trans ⟨fun x h1 h2 h3 => u1 x h2, fun j _ _ _ => by rw [u1 m (by omega)], fun j hj => by rw [wr_same, up_ne (by omega)]⟩).trans (hF5.pi (by omega))) hP5 (fun i hi => ?_) (by rw [hF5.1 a (by omega), wr_same, up_same])
                  unfold ItM
                  rw [hF5.1 a (by omega), hF5.1 (b0 + i) (by omega), wr_same, wr_ne (by omega), up_ne (by omega), up_ne (by omega)]
                  exact hIt3 i hi
                · rw [hss] at h59
                  exact absurd c59 h59
              | some g =>
                dsimp only at hres
                have hg400 := hgl g rfl
                simp (disch := omega) only [q_171_0, q_171_1, q_171_2, q_171_3, q_171_6, q_171_9, q_171_12, q_171_13, q_171_16, q_171_19, q_171_20, q_171_23, q_171_24, q_171_26, q_171_29, q_171_30, q_171_31, q_171_32, q_171_35, q_171_38, q_171_39, q_171_42, q_171_45, q_171_46, q_171_47, q_171_50, q_171_52, q_171_55, q_171_56, q_171_59, q_171_62, q_171_63, q_171_65, q_171_66, q_171_67, q_171_68, q_171_69, q_171_70, q_171_71, q_171_71o, q_171_74, q_171_77, q_171_81, q_171_84, q_171_85, q_171_88, q_171_90, q_171_94, q_171_95, q_171_96, q_171_99, q_171_102, q_171_104, q_171_105, q_171_108, q_171_109, q_171_110, q_171_112, q_171_115, q_171_116, q_171_117, q_171_118, q_171_119, q_171_120, q_171_123, q_171_e, va_rf_s, bz_0, bz_1, bz_ok, bb_ok, Nat.add_assoc, w_lt, w_add, w_sub, w_mul, w_div, em_def, w_eq, w_inT, ↓ilt_t, ↓ilt_f, ↓ieq_t, ↓ieq_f, ntT, w_b, w_ix, kx_v, kx_n, kl_n, kl_i, kl_r, kl_o, inA_i, inA_s, inA_b, inA_z, inA_l, inA_0, inA_4, inA_5, inA_6, inA_7, inA_8, inA_9, inA_10, al_0, al_1, al_2, al_4, al_5, al_98, bsP_2, bsP_3, wr_same, wr_wr, wr_ne, up_same, up_ne, Nat.reduceAdd, Int.reduceAdd, Int.reduceSub, Int.reduceMul, Int.reduceLT, Int.reduceLE, Int.reduceEq, Int.reduceNeg, Int.reduceToNat, Nat.reduceLT, Nat.reduceLeDiff, Nat.reduceEqDiff, ↓reduceIte, true_and, and_true, not_true_eq_false, not_false_eq_true, eq_self, or_true, true_or, or_false, false_or, if_true, if_false, Int.toNat_natCast, w_ite, Nat.add_zero, reduceCtorEq, ne_eq, hm, ha, gz]
                refine sp_161t hL hP3 (by decide) (fun I4 hF4 hP4 => ?_)
                have u1 : ∀ x, x ≠ a → wr I4 a (up (I4 a) 4 (w its.length)) x = I4 x := fun x hx => wr_ne hx
                have hne4 : ((4 : Int), (g : Int)).1 ≠ 0 := fun h : (4 : Int) = 0 => absurd h (by decide)
                have hP5 : PM (wr I4 a (up (I4 a) 4 (w its.length))) m t (skb t q) (4, (g : Int)) := hP4.keep (u1 m (by omega)) (u1 _ (by omega))
                have s168 := fun {d : Nat} {Q : XO → Hp → Prop} => sp_168f (d := d) (Q := Q) (L := L) (G := G) hL hP5 hne4
                have := hQ0 4 g hres.symm _ _ ((hF3'.trans (hF4.pi (by omega))).trans ⟨fun x h1 h2 h3 => u1 x h2, fun j _ _ _ => by rw [u1 m (by omega)], fun j hj => by rw [wr_same, up_ne (by omega)]⟩) hP5
                simp (disch := omega) only [q_171_0, q_171_1, q_171_2, q_171_3, q_171_6, q_171_9, q_171_12, q_171_13, q_171_16, q_171_19, q_171_20, q_171_23, q_171_24, q_171_26, q_171_29, q_171_30, q_171_31, q_171_32, q_171_35, q_171_38, q_171_39, q_171_42, q_171_45, q_171_46, q_171_47, q_171_50, q_171_52, q_171_55, q_171_56, q_171_59, q_171_62, q_171_63, q_171_65, q_171_66, q_171_67, q_171_68, q_171_69, q_171_70, q_171_71, q_171_71o, q_171_74, q_171_77, q_171_81, q_171_84, q_171_85, q_171_88, q_171_90, q_171_94, q_171_95, q_171_96, q_171_99, q_171_102, q_171_104, q_171_105, q_171_108, q_171_109, q_171_110, q_171_112, q_171_115, q_171_116, q_171_117, q_171_118, q_171_119, q_171_120, q_171_123, q_171_e, va_rf_s, bz_0, bz_1, bz_ok, bb_ok, Nat.add_assoc, w_lt, w_add, w_sub, w_mul, w_div, em_def, w_eq, w_inT, ↓ilt_t, ↓ilt_f, ↓ieq_t, ↓ieq_f, ntT, w_b, w_ix, kx_v, kx_n, kl_n, kl_i, kl_r, kl_o, inA_i, inA_s, inA_b, inA_z, inA_l, inA_0, inA_4, inA_5, inA_6, inA_7, inA_8, inA_9, inA_10, al_0, al_1, al_2, al_4, al_5, al_98, bsP_2, bsP_3, wr_same, wr_wr, wr_ne, up_same, up_ne, Nat.reduceAdd, Int.reduceAdd, Int.reduceSub, Int.reduceMul, Int.reduceLT, Int.reduceLE, Int.reduceEq, Int.reduceNeg, Int.reduceToNat, Nat.reduceLT, Nat.reduceLeDiff, Nat.reduceEqDiff, ↓reduceIte, true_and, and_true, not_true_eq_false, not_false_eq_true, eq_self, or_true, true_or, or_false, false_or, if_true, if_false, Int.toNat_natCast, w_ite, Nat.add_zero, reduceCtorEq, ne_eq, hm, ha, s168]
                exact this
            · have := f93 (fun h => c59 h.1) I3 hF3' hP3
              generalize bt t (skb t q) = bc at *
              simp (disch := omega) only [q_171_0, q_171_1, q_171_2, q_171_3, q_171_6, q_171_9, q_171_12, q_171_13, q_171_16, q_171_19, q_171_20, q_171_23, q_171_24, q_171_26, q_171_29, q_171_30, q_171_31, q_171_32, q_171_35, q_171_38, q_171_39, q_171_42, q_171_45, q_171_46, q_171_47, q_171_50, q_171_52, q_171_55, q_171_56, q_171_59, q_171_62, q_171_63, q_171_65, q_171_66, q_171_67, q_171_68, q_171_69, q_171_70, q_171_71, q_171_71o, q_171_74, q_171_77, q_171_81, q_171_84, q_171_85, q_171_88, q_171_90, q_171_94, q_171_95, q_171_96, q_171_99, q_171_104, q_171_105, q_171_108, q_171_109, q_171_110, q_171_112, q_171_115, q_171_116, q_171_117, q_171_118, q_171_119, q_171_120, q_171_123, q_171_e, va_rf_s, bz_0, bz_1, bz_ok, bb_ok, Nat.add_assoc, w_lt, w_add, w_sub, w_mul, w_div, em_def, w_eq, w_inT, ↓ilt_t, ↓ilt_f, ↓ieq_t, ↓ieq_f, ntT, w_b, w_ix, kx_v, kx_n, kl_n, kl_i, kl_r, kl_o, inA_i, inA_s, inA_b, inA_z, inA_l, inA_0, inA_4, inA_5, inA_6, inA_7, inA_8, inA_9, inA_10, al_0, al_1, al_2, al_4, al_5, al_98, bsP_2, bsP_3, wr_same, wr_wr, wr_ne, up_same, up_ne, Nat.reduceAdd, Int.reduceAdd, Int.reduceSub, Int.reduceMul, Int.reduceLT, Int.reduceLE, Int.reduceEq, Int.reduceNeg, Int.reduceToNat, Nat.reduceLT, Nat.reduceLeDiff, Nat.reduceEqDiff, ↓reduceIte, true_and, and_true, not_true_eq_false, not_false_eq_true, eq_self, or_true, true_or, or_false, false_or, if_true, if_false, Int.toNat_natCast, w_ite, Nat.add_zero, reduceCtorEq, ne_eq]
              exact this
        simp (disch := omega) only [q_171_0, q_171_1, q_171_2, q_171_3, q_171_6, q_171_9, q_171_12, q_171_13, q_171_16, q_171_19, q_171_20, q_171_23, q_171_24, q_171_26, q_171_29, q_171_30, q_171_31, q_171_32, q_171_35, q_171_38, q_171_39, q_171_42, q_171_45, q_171_46, q_171_47, q_171_50, q_171_52, q_171_55, q_171_56, q_171_59, q_171_62, q_171_63, q_171_65, q_171_66, q_171_67, q_171_68, q_171_69, q_171_70, q_171_71, q_171_71o, q_171_74, q_171_77, q_171_81, q_171_84, q_171_85, q_171_88, q_171_90, q_171_93, q_171_94, q_171_95, q_171_96, q_171_99, q_171_102, q_171_104, q_171_105, q_171_108, q_171_109, q_171_110, q_171_112, q_171_115, q_171_116, q_171_117, q_171_118, q_171_119, q_171_120, q_171_123, q_171_e, va_rf_s, bz_0, bz_1, bz_ok, bb_ok, Nat.add_assoc, w_lt, w_add, w_sub, w_mul, w_div, em_def, w_eq, w_inT, ↓ilt_t, ↓ilt_f, ↓ieq_t, ↓ieq_f, ntT, w_b, w_ix, kx_v, kx_n, kl_n, kl_i, kl_r, kl_o, inA_i, inA_s, inA_b, inA_z, inA_l, inA_0, inA_4, inA_5, inA_6, inA_7, inA_8, inA_9, inA_10, al_0, al_1, al_2, al_4, al_5, al_98, bsP_2, bsP_3, wr_same, wr_wr, wr_ne, up_same, up_ne, Nat.reduceAdd, Int.reduceAdd, Int.reduceSub, Int.reduceMul, Int.reduceLT, Int.reduceLE, Int.reduceEq, Int.reduceNeg, Int.reduceToNat, Nat.reduceLT, Nat.reduceLeDiff, Nat.reduceEqDiff, ↓reduceIte, true_and, and_true, not_true_eq_false, not_false_eq_true, eq_self, or_true, true_or, or_false, false_or, if_true, if_false, Int.toNat_natCast, w_ite, Nat.add_zero, reduceCtorEq, ne_eq, s169, ck]
        exact e80
      · have hb59 : ¬ (bt t (skb t q) = 59 ∧ its ≠ []) := fun h => ck (by rw [h.1]; decide)
        rw [if_neg hb59, if_neg ck] at hres
        by_cases c6 : 6 ≤ its.length
        · rw [if_pos c6] at hres
          have el : (its.length : Int) = 6 := by omega
          simp (disch := omega) only [q_171_0, q_171_1, q_171_2, q_171_3, q_171_6, q_171_9, q_171_12, q_171_13, q_171_16, q_171_19, q_171_20, q_171_23, q_171_24, q_171_26, q_171_29, q_171_30, q_171_31, q_171_32, q_171_35, q_171_38, q_171_39, q_171_42, q_171_45, q_171_46, q_171_47, q_171_50, q_171_52, q_171_55, q_171_56, q_171_59, q_171_62, q_171_63, q_171_65, q_171_66, q_171_67, q_171_68, q_171_69, q_171_70, q_171_71, q_171_71o, q_171_74, q_171_77, q_171_81, q_171_84, q_171_85, q_171_88, q_171_90, q_171_93, q_171_94, q_171_95, q_171_96, q_171_99, q_171_102, q_171_104, q_171_105, q_171_108, q_171_109, q_171_110, q_171_112, q_171_115, q_171_116, q_171_117, q_171_118, q_171_119, q_171_120, q_171_123, q_171_e, va_rf_s, bz_0, bz_1, bz_ok, bb_ok, Nat.add_assoc, w_lt, w_add, w_sub, w_mul, w_div, em_def, w_eq, w_inT, ↓ilt_t, ↓ilt_f, ↓ieq_t, ↓ieq_f, ntT, w_b, w_ix, kx_v, kx_n, kl_n, kl_i, kl_r, kl_o, inA_i, inA_s, inA_b, inA_z, inA_l, inA_0, inA_4, inA_5, inA_6, inA_7, inA_8, inA_9, inA_10, al_0, al_1, al_2, al_4, al_5, al_98, bsP_2, bsP_3, wr_same, wr_wr, wr_ne, up_same, up_ne, Nat.reduceAdd, Int.reduceAdd, Int.reduceSub, Int.reduceMul, Int.reduceLT, Int.reduceLE, Int.reduceEq, Int.reduceNeg, Int.reduceToNat, Nat.reduceLT, Nat.reduceLeDiff, Nat.reduceEqDiff, ↓reduceIte, true_and, and_true, not_true_eq_false, not_false_eq_true, eq_self, or_true, true_or, or_false, false_or, if_true, if_false, Int.toNat_natCast, w_ite, Nat.add_zero, reduceCtorEq, ne_eq, hm, s169, el, e442]
          refine sp_161t hL hP2 (by decide) (fun I3 hF3 hP3 => ?_)
          have hne3 : ((3 : Int), (skb t q : Int)).1 ≠ 0 := fun h : (3 : Int) = 0 => absurd h (by decide)
          have s160 := fun {d : Nat} {Q : XO → Hp → Prop} => sp_160f (d := d) (Q := Q) (L := L) (G := G) hL hP3 hne3
          have := hQ0 3 (skb t q) hres.symm I3 _ (hFF.trans (hF3.pi (by omega))) hP3
          simp (disch := omega) only [q_171_0, q_171_1, q_171_2, q_171_3, q_171_6, q_171_9, q_171_12, q_171_13, q_171_16, q_171_19, q_171_20, q_171_23, q_171_24, q_171_26, q_171_29, q_171_30, q_171_31, q_171_32, q_171_35, q_171_38, q_171_39, q_171_42, q_171_45, q_171_46, q_171_47, q_171_50, q_171_52, q_171_55, q_171_56, q_171_59, q_171_62, q_171_63, q_171_65, q_171_66, q_171_67, q_171_68, q_171_69, q_171_70, q_171_71, q_171_71o, q_171_74, q_171_77, q_171_81, q_171_84, q_171_85, q_171_88, q_171_90, q_171_93, q_171_94, q_171_95, q_171_96, q_171_99, q_171_102, q_171_104, q_171_105, q_171_108, q_171_109, q_171_110, q_171_112, q_171_115, q_171_116, q_171_117, q_171_118, q_171_119, q_171_120, q_171_123, q_171_e, va_rf_s, bz_0, bz_1, bz_ok, bb_ok, Nat.add_assoc, w_lt, w_add, w_sub, w_mul, w_div, em_def, w_eq, w_inT, ↓ilt_t, ↓ilt_f, ↓ieq_t, ↓ieq_f, ntT, w_b, w_ix, kx_v, kx_n, kl_n, kl_i, kl_r, kl_o, inA_i, inA_s, inA_b, inA_z, inA_l, inA_0, inA_4, inA_5, inA_6, inA_7, inA_8, inA_9, inA_10, al_0, al_1, al_2, al_4, al_5, al_98, bsP_2, bsP_3, wr_same, wr_wr, wr_ne, up_same, up_ne, Nat.reduceAdd, Int.reduceAdd, Int.reduceSub, Int.reduceMul, Int.reduceLT, Int.reduceLE, Int.reduceEq, Int.reduceNeg, Int.reduceToNat, Nat.reduceLT, Nat.reduceLeDiff, Nat.reduceEqDiff, ↓reduceIte, true_and, and_true, not_true_eq_false, not_false_eq_true, eq_self, or_true, true_or, or_false, false_or, if_true, if_false, Int.toNat_natCast, w_ite, Nat.add_zero, reduceCtorEq, ne_eq, hm, s160]
          exact this
        · rw [if_neg c6] at hres
          have s160b := fun {d : Nat} {Q : XO → Hp → Prop} => sp_160t (d := d) (Q := Q) (L := L) (G := G) hL hP2
          simp (disch := omega) only [q_171_0, q_171_1, q_171_2, q_171_3, q_171_6, q_171_9, q_171_12, q_171_13, q_171_16, q_171_19, q_171_20, q_171_23, q_171_24, q_171_26, q_171_29, q_171_30, q_171_31, q_171_32, q_171_35, q_171_38, q_171_39, q_171_42, q_171_45, q_171_46, q_171_47, q_171_50, q_171_52, q_171_55, q_171_56, q_171_59, q_171_62, q_171_63, q_171_65, q_171_66, q_171_67, q_171_68, q_171_69, q_171_70, q_171_71, q_171_71o, q_171_74, q_171_77, q_171_81, q_171_84, q_171_85, q_171_88, q_171_90, q_171_93, q_171_94, q_171_95, q_171_96, q_171_99, q_171_102, q_171_104, q_171_105, q_171_108, q_171_109, q_171_110, q_171_112, q_171_115, q_171_116, q_171_117, q_171_118, q_171_119, q_171_120, q_171_123, q_171_e, va_rf_s, bz_0, bz_1, bz_ok, bb_ok, Nat.add_assoc, w_lt, w_add, w_sub, w_mul, w_div, em_def, w_eq, w_inT, ↓ilt_t, ↓ilt_f, ↓ieq_t, ↓ieq_f, ntT, w_b, w_ix, kx_v, kx_n, kl_n, kl_i, kl_r, kl_o, inA_i, inA_s, inA_b, inA_z, inA_l, inA_0, inA_4, inA_5, inA_6, inA_7, inA_8, inA_9, inA_10, al_0, al_1, al_2, al_4, al_5, al_98, bsP_2, bsP_3, wr_same, wr_wr, wr_ne, up_same, up_ne, Nat.reduceAdd, Int.reduceAdd, Int.reduceSub, Int.reduceMul, Int.reduceLT, Int.reduceLE, Int.reduceEq, Int.reduceNeg, Int.reduceToNat, Nat.reduceLT, Nat.reduceLeDiff, Nat.reduceEqDiff, ↓reduceIte, true_and, and_true, not_true_eq_false, not_false_eq_true, eq_self, or_true, true_or, or_false, false_or, if_true, if_false, Int.toNat_natCast, w_ite, Nat.add_zero, reduceCtorEq, ne_eq, hm, s169, s160b]
          refine sp_159 hL hP2 (fun I3 hF3 hP3 => ?_)
          rw [hss] at hP3 ⊢
          have hF3' := hFF.trans (hF3.pi (b0 := b0) (show a ≠ m by omega))
          have e443 := hP3.2.2.2.2.1
          have hIt3 : ItsM I3 a b0 its := fun i hi => by
            unfold ItM
            rw [hF3.1 a (by omega), hF3.1 (b0 + i) (by omega)]
            exact hIt2 i hi
          obtain ⟨rb1, rb2⟩ := hRb its.length (by omega)
          have hin : skb t q < t.length ∧ bt t (skb t q) = t.getD (skb t q) 0 := by
            unfold bt
            split
            · exact ⟨by assumption, rfl⟩
            · rename_i hn
              exfalso
              apply ck
              unfold bt
              rw [if_neg hn]
              decide
          -- the item
          have item : ∀ g4 : Int, g4 = (if kdH (bt t (skb t q)) = 6 then ((skb t q : Nat) : Int) else -1) → XX (d + 5) 171 65 [some (.ref m), some (.ref a), some (.ref bb), some (.int (w its.length)), some (.int (w g4))] [] (mk S I3 L R G) Q := by
            intro g4 eg4
            have hlast : its ≠ [] → 0 ≤ (its.getD (its.length - 1) d0).1 ∧ (its.getD (its.length - 1) d0).1 ≤ 6 ∧ I3 a (3 + 2 * its.length) = w (its.getD (its.length - 1) d0).1 := by
              intro hne
              have hpos : 0 < its.length := List.length_pos_iff.mpr hne
              have hmem : its.getD (its.length - 1) d0 ∈ its := by rw [List.getD_eq_getElem?_getD, List.getElem?_eq_getElem (show its.length - 1 < its.length by omega)]; exact List.getElem_mem _
              have := hk6 _ hmem
              have h3 := (hIt3 (its.length - 1) (by omega)).1
              rw [show 5 + 2 * (its.length - 1) = 3 + 2 * its.length by omega] at h3
              exact ⟨this.1, this.2, h3⟩
            rw [q_171_65]
            simp (disch := omega) only [q_171_0, q_171_1, q_171_2, q_171_3, q_171_6, q_171_9, q_171_12, q_171_13, q_171_16, q_171_19, q_171_20, q_171_23, q_171_24, q_171_26, q_171_29, q_171_30, q_171_31, q_171_32, q_171_35, q_171_38, q_171_39, q_171_42, q_171_45, q_171_46, q_171_47, q_171_50, q_171_52, q_171_55, q_171_56, q_171_59, q_171_62, q_171_63, q_171_66, q_171_67, q_171_68, q_171_69, q_171_70, q_171_71, q_171_71o, q_171_74, q_171_77, q_171_81, q_171_84, q_171_85, q_171_88, q_171_90, q_171_93, q_171_94, q_171_95, q_171_96, q_171_99, q_171_102, q_171_104, q_171_105, q_171_108, q_171_109, q_171_110, q_171_112, q_171_115, q_171_116, q_171_117, q_171_118, q_171_119, q_171_120, q_171_123, q_171_e, va_rf_s, bz_0, bz_1, bz_ok, bb_ok, Nat.add_assoc, w_lt, w_add, w_sub, w_mul, w_div, em_def, w_eq, w_inT, ↓ilt_t, ↓ilt_f, ↓ieq_t, ↓ieq_f, ntT, w_b, w_ix, kx_v, kx_n, kl_n, kl_i, kl_r, kl_o, inA_i, inA_s, inA_b, inA_z, inA_l, inA_0, inA_4, inA_5, inA_6, inA_7, inA_8, inA_9, inA_10, al_0, al_1, al_2, al_4, al_5, al_98, bsP_2, bsP_3, wr_same, wr_wr, wr_ne, up_same, up_ne, Nat.reduceAdd, Int.reduceAdd, Int.reduceSub, Int.reduceMul, Int.reduceLT, Int.reduceLE, Int.reduceEq, Int.reduceNeg, Int.reduceToNat, Nat.reduceLT, Nat.reduceLeDiff, Nat.reduceEqDiff, ↓reduceIte, true_and, and_true, not_true_eq_false, not_false_eq_true, eq_self, or_true, true_or, or_false, false_or, if_true, if_false, Int.toNat_natCast, w_ite, Nat.add_zero, reduceCtorEq, ne_eq, hm, hSb, rb1]
            have cbad : (kdH (bt t (skb t q)) = 6 ∧ (its.length = 0 ∨ (if its = [] then (0 : Int) else (its.getD (its.length - 1) d0).1) = 6)) ↔ (kdH (bt t (skb t q)) = 6 ∧ (its = [] ∨ gl ≠ none)) := by
              by_cases c0 : its = []
              · subst c0
                exact ⟨fun h => ⟨h.1, Or.inl rfl⟩, fun h => ⟨h.1, Or.inl rfl⟩⟩
              · rw [if_neg c0, hgk c0]
                have el : its.length ≠ 0 := fun h => c0 (List.eq_nil_of_length_eq_zero h)
                exact ⟨fun h => ⟨h.1, h.2.elim (fun h => absurd h el) Or.inr⟩, fun h => ⟨h.1, h.2.elim (fun h => absurd h c0) Or.inr⟩⟩
            have hgl4 : -1 ≤ g4 ∧ g4 ≤ 400 := by rw [eg4]; split <;> omega
            refine sp_170 (i := its.length) (g := if its = [] then 0 else (its.getD (its.length - 1) d0).1) hL hP3 ha rb2 (by omega) (by omega) (by omega) (by omega) (by omega) (by omega) (by rw [hss]; exact ck) (fun h0 => ?_) (by
              split
              · decide
              · rename_i c0; have := hlast c0; omega) (fun hb I4 p4 hF4 hO4 hP4 => ?_) (fun hb kk qq hit I4 p4 hF4 hO4 hP4 => ?_) (fun hb it qq hit I4 hF4 hP4 hItN hOld => ?_)
            · rw [if_neg (List.length_pos_iff.mp h0)]
              exact (hlast (List.length_pos_iff.mp h0)).2.2
            · rw [hss] at hb hP4
              rw [if_pos (cbad.mp hb)] at hres
              have hne4 : ((4 : Int), (skb t q : Int)).1 ≠ 0 := fun h : (4 : Int) = 0 => absurd h (by decide)
              have hF4' : PiF I I4 m a b0 := hF3'.trans ⟨fun x x1 x2 x3 => hF4.1 x x1 x2 (by omega), hF4.2, hO4⟩
              have := sp_171e (d := d) (Q := Q) (i := its.length + 1) (bb := bb) (g := w g4) (b0 := b0) (L := L) (G := G) hL hP4 hne4 (by omega) (by omega) (by omega) ha (fun I5 p5 hF5 hP5 => hQ0 4 _ hres.symm I5 p5 (hF4'.trans hF5) hP5)
              simp only [Int.natCast_add, Int.natCast_one] at this
              simp (disch := omega) only [q_171_0, q_171_1, q_171_2, q_171_3, q_171_6, q_171_9, q_171_12, q_171_13, q_171_16, q_171_19, q_171_20, q_171_23, q_171_24, q_171_26, q_171_29, q_171_30, q_171_31, q_171_32, q_171_35, q_171_38, q_171_39, q_171_42, q_171_45, q_171_46, q_171_47, q_171_50, q_171_52, q_171_55, q_171_56, q_171_59, q_171_62, q_171_63, q_171_66, q_171_67, q_171_68, q_171_69, q_171_70, q_171_71, q_171_71o, q_171_74, q_171_77, q_171_81, q_171_84, q_171_85, q_171_88, q_171_90, q_171_93, q_171_94, q_171_95, q_171_96, q_171_99, q_171_102, q_171_104, q_171_105, q_171_108, q_171_109, q_171_110, q_171_112, q_171_115, q_171_116, q_171_117, q_171_118, q_171_119, q_171_120, q_171_123, q_171_e, va_rf_s, bz_0, bz_1, bz_ok, bb_ok, Nat.add_assoc, w_lt, w_add, w_sub, w_mul, w_div, em_def, w_eq, w_inT, ↓ilt_t, ↓ilt_f, ↓ieq_t, ↓ieq_f, ntT, w_b, w_ix, kx_v, kx_n, kl_n, kl_i, kl_r, kl_o, inA_i, inA_s, inA_b, inA_z, inA_l, inA_0, inA_4, inA_5, inA_6, inA_7, inA_8, inA_9, inA_10, al_0, al_1, al_2, al_4, al_5, al_98, bsP_2, bsP_3, wr_same, wr_wr, wr_ne, up_same, up_ne, Nat.reduceAdd, Int.reduceAdd, Int.reduceSub, Int.reduceMul, Int.reduceLT, Int.reduceLE, Int.reduceEq, Int.reduceNeg, Int.reduceToNat, Nat.reduceLT, Nat.reduceLeDiff, Nat.reduceEqDiff, ↓reduceIte, true_and, and_true, not_true_eq_false, not_false_eq_true, eq_self, or_true, true_or, or_false, false_or, if_true, if_false, Int.toNat_natCast, w_ite, Nat.add_zero, reduceCtorEq, ne_eq]
              exact this
            · rw [hss] at hb hit
              rw [if_neg (fun h => hb (cbad.mpr h)), hit] at hres
              dsimp only at hres
              have hne : (kk, (qq : Int)).1 ≠ 0 := by
                have := (pItem_bad hit hin.1).1
                dsimp only at this ⊢
                omega
              have hF4' : PiF I I4 m a b0 := hF3'.trans ⟨fun x x1 x2 x3 => hF4.1 x x1 x2 (by omega), hF4.2, hO4⟩
              have := sp_171e (d := d) (Q := Q) (i := its.length + 1) (bb := bb) (g := w g4) (b0 := b0) (L := L) (G := G) hL hP4 hne (by omega) (by omega) (by omega) ha (fun I5 p5 hF5 hP5 => hQ0 kk qq hres.symm I5 p5 (hF4'.trans hF5) hP5)
              simp only [Int.natCast_add, Int.natCast_one] at this
              simp (disch := omega) only [q_171_0, q_171_1, q_171_2, q_171_3, q_171_6, q_171_9, q_171_12, q_171_13, q_171_16, q_171_19, q_171_20, q_171_23, q_171_24, q_171_26, q_171_29, q_171_30, q_171_31, q_171_32, q_171_35, q_171_38, q_171_39, q_171_42, q_171_45, q_171_46, q_171_47, q_171_50, q_171_52, q_171_55, q_171_56, q_171_59, q_171_62, q_171_63, q_171_66, q_171_67, q_171_68, q_171_69, q_171_70, q_171_71, q_171_71o, q_171_74, q_171_77, q_171_81, q_171_84, q_171_85, q_171_88, q_171_90, q_171_93, q_171_94, q_171_95, q_171_96, q_171_99, q_171_102, q_171_104, q_171_105, q_171_108, q_171_109, q_171_110, q_171_112, q_171_115, q_171_116, q_171_117, q_171_118, q_171_119, q_171_120, q_171_123, q_171_e, va_rf_s, bz_0, bz_1, bz_ok, bb_ok, Nat.add_assoc, w_lt, w_add, w_sub, w_mul, w_div, em_def, w_eq, w_inT, ↓ilt_t, ↓ilt_f, ↓ieq_t, ↓ieq_f, ntT, w_b, w_ix, kx_v, kx_n, kl_n, kl_i, kl_r, kl_o, inA_i, inA_s, inA_b, inA_z, inA_l, inA_0, inA_4, inA_5, inA_6, inA_7, inA_8, inA_9, inA_10, al_0, al_1, al_2, al_4, al_5, al_98, bsP_2, bsP_3, wr_same, wr_wr, wr_ne, up_same, up_ne, Nat.reduceAdd, Int.reduceAdd, Int.reduceSub, Int.reduceMul, Int.reduceLT, Int.reduceLE, Int.reduceEq, Int.reduceNeg, Int.reduceToNat, Nat.reduceLT, Nat.reduceLeDiff, Nat.reduceEqDiff, ↓reduceIte, true_and, and_true, not_true_eq_false, not_false_eq_true, eq_self, or_true, true_or, or_false, false_or, if_true, if_false, Int.toNat_natCast, w_ite, Nat.add_zero, reduceCtorEq, ne_eq]
              exact this
            · rw [hss] at hb hit
              rw [if_neg (fun h => hb (cbad.mpr h)), hit] at hres
              dsimp only at hres
              obtain ⟨i1, i2, i3⟩ := pItem_ok hit hin.1 (by rw [hin.2]) ck
              have hF4' : PiF I I4 m a b0 := hF3'.trans ⟨fun x x1 x2 x3 => hF4.1 x x1 x2 (by omega), hF4.2, fun j hj => hOld j (by omega) (by omega)⟩
              have hll : (its ++ [it]).length = its.length + 1 := by rw [List.length_append]; rfl
              have hgz4 : gz (if kdH (bt t (skb t q)) = 6 then some (skb t q) else none) = g4 := by
                rw [eg4]
                split
                · rfl
                · rfl
              have := ih qq (its ++ [it]) (if kdH (bt t (skb t q)) = 6 then some (skb t q) else none) I4 (by omega) (by omega) (fun it' hit' => by
                rcases List.mem_append.mp hit' with h' | h'
                · exact hk6 _ h'
                · have e : it' = it := by simpa using h'
                  rw [e, i3]; omega) (fun g hg => by
                split at hg
                · cases hg; omega
                · cases hg) (Or.inr (by simp)) (fun _ => by
                rw [hll, Nat.add_sub_cancel, itD_snoc, if_pos rfl, i3]
                constructor
                · intro h6; rw [if_pos h6]; simp
                · intro hn
                  apply Classical.byContradiction
                  intro h6
                  rw [if_neg h6] at hn
                  exact hn rfl) hres hF4' hP4 (fun i hi => by
                rw [hll] at hi
                rw [itD_snoc]
                by_cases e : i = its.length
                · rw [if_pos e, e]; exact hItN
                · rw [if_neg e]
                  have old := hIt3 i (by omega)
                  unfold ItM at old ⊢
                  rw [hOld _ (by omega) (by omega), hOld _ (by omega) (by omega), hF4.1 (b0 + i) (by omega) (by omega) (by omega)]
                  exact old)
              rw [hgz4, hll] at this
              simp only [Int.natCast_add, Int.natCast_one] at this
              simp (disch := omega) only [q_171_0, q_171_1, q_171_2, q_171_3, q_171_6, q_171_9, q_171_12, q_171_13, q_171_16, q_171_19, q_171_20, q_171_23, q_171_24, q_171_26, q_171_29, q_171_30, q_171_31, q_171_32, q_171_35, q_171_38, q_171_39, q_171_42, q_171_45, q_171_46, q_171_47, q_171_50, q_171_52, q_171_55, q_171_56, q_171_59, q_171_62, q_171_63, q_171_66, q_171_67, q_171_68, q_171_69, q_171_70, q_171_71, q_171_71o, q_171_74, q_171_77, q_171_81, q_171_84, q_171_85, q_171_88, q_171_90, q_171_93, q_171_94, q_171_95, q_171_96, q_171_99, q_171_102, q_171_104, q_171_105, q_171_108, q_171_109, q_171_110, q_171_112, q_171_115, q_171_116, q_171_117, q_171_118, q_171_119, q_171_120, q_171_123, q_171_e, va_rf_s, bz_0, bz_1, bz_ok, bb_ok, Nat.add_assoc, w_lt, w_add, w_sub, w_mul, w_div, em_def, w_eq, w_inT, ↓ilt_t, ↓ilt_f, ↓ieq_t, ↓ieq_f, ntT, w_b, w_ix, kx_v, kx_n, kl_n, kl_i, kl_r, kl_o, inA_i, inA_s, inA_b, inA_z, inA_l, inA_0, inA_4, inA_5, inA_6, inA_7, inA_8, inA_9, inA_10, al_0, al_1, al_2, al_4, al_5, al_98, bsP_2, bsP_3, wr_same, wr_wr, wr_ne, up_same, up_ne, Nat.reduceAdd, Int.reduceAdd, Int.reduceSub, Int.reduceMul, Int.reduceLT, Int.reduceLE, Int.reduceEq, Int.reduceNeg, Int.reduceToNat, Nat.reduceLT, Nat.reduceLeDiff, Nat.reduceEqDiff, ↓reduceIte, true_and, and_true, not_true_eq_false, not_false_eq_true, eq_self, or_true, true_or, or_false, false_or, if_true, if_false, Int.toNat_natCast, w_ite, Nat.add_zero, reduceCtorEq, ne_eq]
              exact this
          have h126 := kdH_6 (b := bt t (skb t q))
          have it1 := item (if kdH (bt t (skb t q)) = 6 then ((skb t q : Nat) : Int) else -1) rfl
          by_cases c126 : bt t (skb t q) = 126
          · rw [if_pos (h126.mpr c126)] at it1
            rw [c126]
            simp (disch := omega) only [q_171_0, q_171_1, q_171_2, q_171_3, q_171_6, q_171_9, q_171_12, q_171_13, q_171_16, q_171_19, q_171_20, q_171_23, q_171_24, q_171_26, q_171_29, q_171_30, q_171_31, q_171_32, q_171_35, q_171_38, q_171_39, q_171_42, q_171_45, q_171_46, q_171_47, q_171_50, q_171_52, q_171_55, q_171_56, q_171_59, q_171_62, q_171_63, q_171_66, q_171_67, q_171_68, q_171_69, q_171_70, q_171_71, q_171_71o, q_171_74, q_171_77, q_171_81, q_171_84, q_171_85, q_171_88, q_171_90, q_171_93, q_171_94, q_171_95, q_171_96, q_171_99, q_171_102, q_171_104, q_171_105, q_171_108, q_171_109, q_171_110, q_171_112, q_171_115, q_171_116, q_171_117, q_171_118, q_171_119, q_171_120, q_171_123, q_171_e, va_rf_s, bz_0, bz_1, bz_ok, bb_ok, Nat.add_assoc, w_lt, w_add, w_sub, w_mul, w_div, em_def, w_eq, w_inT, ↓ilt_t, ↓ilt_f, ↓ieq_t, ↓ieq_f, ntT, w_b, w_ix, kx_v, kx_n, kl_n, kl_i, kl_r, kl_o, inA_i, inA_s, inA_b, inA_z, inA_l, inA_0, inA_4, inA_5, inA_6, inA_7, inA_8, inA_9, inA_10, al_0, al_1, al_2, al_4, al_5, al_98, bsP_2, bsP_3, wr_same, wr_wr, wr_ne, up_same, up_ne, Nat.reduceAdd, Int.reduceAdd, Int.reduceSub, Int.reduceMul, Int.reduceLT, Int.reduceLE, Int.reduceEq, Int.reduceNeg, Int.reduceToNat, Nat.reduceLT, Nat.reduceLeDiff, Nat.reduceEqDiff, ↓reduceIte, true_and, and_true, not_true_eq_false, not_false_eq_true, eq_self, or_true, true_or, or_false, false_or, if_true, if_false, Int.toNat_natCast, w_ite, Nat.add_zero, reduceCtorEq, ne_eq, hm, e443]
            exact it1
          · rw [if_neg (fun h => c126 (h126.mp h))] at it1
            generalize bt t (skb t q) = bc at *
            simp (disch := omega) only [q_171_0, q_171_1, q_171_2, q_171_3, q_171_6, q_171_9, q_171_12, q_171_13, q_171_16, q_171_19, q_171_20, q_171_23, q_171_24, q_171_26, q_171_29, q_171_30, q_171_31, q_171_32, q_171_35, q_171_38, q_171_39, q_171_42, q_171_45, q_171_46, q_171_47, q_171_50, q_171_52, q_171_55, q_171_56, q_171_59, q_171_62, q_171_63, q_171_66, q_171_67, q_171_68, q_171_69, q_171_70, q_171_71, q_171_71o, q_171_74, q_171_77, q_171_81, q_171_84, q_171_85, q_171_88, q_171_90, q_171_93, q_171_94, q_171_95, q_171_96, q_171_99, q_171_102, q_171_104, q_171_105, q_171_108, q_171_109, q_171_110, q_171_112, q_171_115, q_171_116, q_171_117, q_171_118, q_171_119, q_171_120, q_171_123, q_171_e, va_rf_s, bz_0, bz_1, bz_ok, bb_ok, Nat.add_assoc, w_lt, w_add, w_sub, w_mul, w_div, em_def, w_eq, w_inT, ↓ilt_t, ↓ilt_f, ↓ieq_t, ↓ieq_f, ntT, w_b, w_ix, kx_v, kx_n, kl_n, kl_i, kl_r, kl_o, inA_i, inA_s, inA_b, inA_z, inA_l, inA_0, inA_4, inA_5, inA_6, inA_7, inA_8, inA_9, inA_10, al_0, al_1, al_2, al_4, al_5, al_98, bsP_2, bsP_3, wr_same, wr_wr, wr_ne, up_same, up_ne, Nat.reduceAdd, Int.reduceAdd, Int.reduceSub, Int.reduceMul, Int.reduceLT, Int.reduceLE, Int.reduceEq, Int.reduceNeg, Int.reduceToNat, Nat.reduceLT, Nat.reduceLeDiff, Nat.reduceEqDiff, ↓reduceIte, true_and, and_true, not_true_eq_false, not_false_eq_true, eq_self, or_true, true_or, or_false, false_or, if_true, if_false, Int.toNat_natCast, w_ite, Nat.add_zero, reduceCtorEq, ne_eq, hm, e443]
            exact it1
  have := lp 7 p [] none I rfl (by decide) (fun it h => nomatch h) (fun g h => nomatch h) (Or.inl rfl) (fun h => absurd rfl h) rfl PiF.refl h (fun i hi => nomatch hi)
  simp (disch := omega) only [q_171_0, q_171_1, q_171_2, q_171_3, q_171_6, q_171_9, q_171_12, q_171_13, q_171_16, q_171_19, q_171_20, q_171_23, q_171_24, q_171_26, q_171_29, q_171_30, q_171_31, q_171_32, q_171_35, q_171_38, q_171_39, q_171_42, q_171_45, q_171_46, q_171_47, q_171_50, q_171_52, q_171_55, q_171_56, q_171_59, q_171_62, q_171_63, q_171_65, q_171_66, q_171_67, q_171_68, q_171_69, q_171_70, q_171_71, q_171_71o, q_171_74, q_171_77, q_171_81, q_171_84, q_171_85, q_171_88, q_171_90, q_171_93, q_171_94, q_171_95, q_171_96, q_171_99, q_171_102, q_171_104, q_171_105, q_171_108, q_171_109, q_171_110, q_171_112, q_171_115, q_171_116, q_171_117, q_171_118, q_171_119, q_171_120, q_171_123, q_171_e, va_rf_s, bz_0, bz_1, bz_ok, bb_ok, Nat.add_assoc, w_lt, w_add, w_sub, w_mul, w_div, em_def, w_eq, w_inT, ↓ilt_t, ↓ilt_f, ↓ieq_t, ↓ieq_f, ntT, w_b, w_ix, kx_v, kx_n, kl_n, kl_i, kl_r, kl_o, inA_i, inA_s, inA_b, inA_z, inA_l, inA_0, inA_4, inA_5, inA_6, inA_7, inA_8, inA_9, inA_10, al_0, al_1, al_2, al_4, al_5, al_98, bsP_2, bsP_3, wr_same, wr_wr, wr_ne, up_same, up_ne, Nat.reduceAdd, Int.reduceAdd, Int.reduceSub, Int.reduceMul, Int.reduceLT, Int.reduceLE, Int.reduceEq, Int.reduceNeg, Int.reduceToNat, Nat.reduceLT, Nat.reduceLeDiff, Nat.reduceEqDiff, ↓reduceIte, true_and, and_true, not_true_eq_false, not_false_eq_true, eq_self, or_true, true_or, or_false, false_or, if_true, if_false, Int.toNat_natCast, w_ite, Nat.add_zero, reduceCtorEq, ne_eq]
  exact this
end

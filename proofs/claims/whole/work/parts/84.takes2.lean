/-! a text is read, from its head on -/
section
variable {d : Nat} {Q : XO → Hp → Prop} {S : SH} {I : MI} {L : ML} {R : MR} {G : MG} {A : Hp}
theorem sp_65 {tr b bk m n1 : Nat} {z : Int} {tp : List Int} {cn : Nat → Nat} (hG : tr + 6 < G.1)
    (hS : RdS0 S tr) (hbS : S b = some (.inl (2, 400))) (hbt : b < tr) (hst : Strs S I G tr) (hbI : Txt (I b) 0 (tp.map sb)) (htl : tp.length ≤ 400) (htb : ∀ c ∈ tp, 0 ≤ c ∧ c < 256) (hm : m ≤ tp.length)
    (hB : BookS S bk) (hbk : bk + 3 ≤ tr ∨ tr + 6 < bk) (hc : ∀ l, l < 2 → I (bk + 2) l = w (cn l) ∧ cn l ≤ 30) (hz : z = 0 ∨ z = 1)
    (hQ1 : ∀ l rs, pText (tp.take m) (fun l => if z = 1 then 30 - cn l.toNat else 30) = .inl (l, rs) → ∀ (S' : SH) (I' : MI) (L' : ML) (R' : MR) (G' : MG), 0 ≤ l → l ≤ 1 → rs.length ≤ (if z = 1 then 30 - cn l.toNat else 30) → TkF S I L R G tr rs.length S' I' L' R' G' → I' tr 1 = w rs.length → I' tr 2 = w l → I' tr 4 = w (-1) → (∀ i, i < rs.length → ∃ r, R' (tr + 1) i = some r ∧ G.1 ≤ r ∧ r + 3 < G'.1 ∧ RuleAt S' I' L' r (rs.getD i rd0)) → Q (.inl (some (.int (w 1)))) (mk S' I' L' R' G'))
    (hQ0 : ∀ k q, pText (tp.take m) (fun l => if z = 1 then 30 - cn l.toNat else 30) = .inr (k, q) → ∀ (n : Nat) (S' : SH) (I' : MI) (L' : ML) (R' : MR) (G' : MG), n ≤ 30 → TkF S I L R G tr n S' I' L' R' G' → I' tr 3 = w k → I' tr 4 = w q → Q (.inl (some (.int (w 0)))) (mk S' I' L' R' G')) :
    XC (d + 5) 65 [.ref tr, .ref b, .int (w m), .ref bk, .int (w z)] (mk S I L R G) Q := by
  obtain ⟨s0, s1, s3, s4, s5, s6⟩ := id hS
  have hlen : (tp.take m).length = m := by rw [List.length_take]; omega
  have htm : Txt (I b) 0 ((tp.take m).map sb) := by
    intro i hi
    rw [List.length_map, hlen] at hi
    have := hbI i (by rw [List.length_map]; omega)
    rw [this, List.getD_eq_getElem?_getD, List.getD_eq_getElem?_getD, List.getElem?_map, List.getElem?_map, List.getElem?_take_of_lt hi]
  have htbm : ∀ c ∈ tp.take m, 0 ≤ c ∧ c < 256 := fun c hc => htb c (List.mem_of_mem_take hc)
  have em : (if (0 : Int) < (if (400 : Int) < (m : Int) then 400 else (m : Int)) then (if (400 : Int) < (m : Int) then (400 : Int) else (m : Int)) else 0) = m := by split <;> split at * <;> omega
  have em2 : (if (400 : Int) < (m : Int) then (400 : Int) else (m : Int)) = m := by split <;> omega
  have em3 : (if (0 : Int) < (m : Int) then (m : Int) else 0) = m := by split <;> omega
  unfold pText at hQ1 hQ0
  generalize ht : tp.take m = t at *
  simp (disch := omega) only [q_65_0, q_65_1, q_65_2, q_65_5, q_65_6, q_65_7, q_65_8, q_65_9, q_65_10, q_65_13, q_65_16, q_65_19, q_65_20, q_65_21, q_65_24, q_65_25, q_65_26, q_65_29, q_65_30, q_65_31, q_65_34, q_65_35, q_65_36, q_65_39, q_65_40, q_65_43, q_65_46, q_65_47, q_65_48, q_65_50, q_65_53, q_65_55, q_65_56, q_65_57, q_65_60, q_65_63, q_65_64, q_65_67, q_65_69, q_65_71, q_65_72, q_65_76, q_65_78, q_65_81, q_65_82, q_65_85, q_65_86, q_65_89, q_65_90, q_65_93, q_65_96, q_65_97, q_65_98, q_65_99, q_65_101, q_65_104, q_65_107, q_65_108, q_65_111, q_65_114, q_65_115, q_65_118, q_65_121, q_65_122, q_65_123, q_65_124, q_65_127, q_65_130, q_65_133, q_65_134, q_65_e, va_rf_s, bz_0, bz_1, bz_ok, bb_ok, Nat.add_assoc, w_lt, w_add, w_sub, w_mul, w_div, em_def, w_eq, w_inT, ↓ilt_t, ↓ilt_f, ↓ieq_t, ↓ieq_f, ntT, w_b, w_ix, kx_v, kx_n, kl_n, kl_i, kl_r, kl_o, inA_i, inA_s, inA_b, inA_z, inA_l, inA_0, inA_4, inA_5, inA_6, inA_7, inA_8, inA_9, inA_10, al_0, al_1, al_2, al_4, al_5, al_98, bsP_2, bsP_3, wr_same, wr_wr, wr_ne, up_same, up_ne, Nat.reduceAdd, Int.reduceAdd, Int.reduceSub, Int.reduceMul, Int.reduceLT, Int.reduceLE, Int.reduceEq, Int.reduceNeg, Int.reduceToNat, Nat.reduceLT, Nat.reduceLeDiff, Nat.reduceEqDiff, ↓reduceIte, true_and, and_true, not_true_eq_false, not_false_eq_true, eq_self, or_true, true_or, or_false, false_or, if_true, if_false, Int.toNat_natCast, w_ite, Nat.add_zero, reduceCtorEq, ne_eq, s0, hbS, em2, em3]
  generalize hI0 : wr I tr _ = I0
  have i0 : ∀ a, a ≠ tr → I0 a = I a := fun a ha => by rw [← hI0, wr_ne ha]
  have i1 : I0 tr 1 = w 0 ∧ I0 tr 4 = w (-1) ∧ I0 tr 6 = w t.length ∧ I0 tr 7 = w 0 := by
    rw [← hI0, wr_same, hlen]
    exact ⟨rfl, rfl, rfl, rfl⟩
  have hS1 : RdS S (wr R tr (up (R tr) 5 (some b))) tr b := ⟨s0, s1, s3, s4, s5, s6, by rw [wr_same, up_same], hbS, hbt⟩
  have hI1 : RdI I0 tr b t := ⟨by rw [i0 b (by omega)]; exact htm, i1.2.2.1, by omega, htbm⟩
  have hst1 : Strs S I0 G tr := hst.keep (fun a ha => i0 a (by omega))
  refine sp_66 hS1 hI1 hst1 i1.2.2.2 (fun l q hh I1 f1 f2 f3 f4 => ?_) (fun k q hh I1 f1 f2 f3 => ?_)
  case refine_2 =>
    rw [hh] at hQ0
    simp (disch := omega) only [q_65_0, q_65_1, q_65_2, q_65_5, q_65_6, q_65_7, q_65_8, q_65_9, q_65_10, q_65_13, q_65_16, q_65_19, q_65_20, q_65_21, q_65_24, q_65_25, q_65_26, q_65_29, q_65_30, q_65_31, q_65_34, q_65_35, q_65_36, q_65_39, q_65_40, q_65_43, q_65_46, q_65_47, q_65_48, q_65_50, q_65_53, q_65_55, q_65_56, q_65_57, q_65_60, q_65_63, q_65_64, q_65_67, q_65_69, q_65_71, q_65_72, q_65_76, q_65_78, q_65_81, q_65_82, q_65_85, q_65_86, q_65_89, q_65_90, q_65_93, q_65_96, q_65_97, q_65_98, q_65_99, q_65_101, q_65_104, q_65_107, q_65_108, q_65_111, q_65_114, q_65_115, q_65_118, q_65_121, q_65_122, q_65_123, q_65_124, q_65_127, q_65_130, q_65_133, q_65_134, q_65_e, va_rf_s, bz_0, bz_1, bz_ok, bb_ok, Nat.add_assoc, w_lt, w_add, w_sub, w_mul, w_div, em_def, w_eq, w_inT, ↓ilt_t, ↓ilt_f, ↓ieq_t, ↓ieq_f, ntT, w_b, w_ix, kx_v, kx_n, kl_n, kl_i, kl_r, kl_o, inA_i, inA_s, inA_b, inA_z, inA_l, inA_0, inA_4, inA_5, inA_6, inA_7, inA_8, inA_9, inA_10, al_0, al_1, al_2, al_4, al_5, al_98, bsP_2, bsP_3, wr_same, wr_wr, wr_ne, up_same, up_ne, Nat.reduceAdd, Int.reduceAdd, Int.reduceSub, Int.reduceMul, Int.reduceLT, Int.reduceLE, Int.reduceEq, Int.reduceNeg, Int.reduceToNat, Nat.reduceLT, Nat.reduceLeDiff, Nat.reduceEqDiff, ↓reduceIte, true_and, and_true, not_true_eq_false, not_false_eq_true, eq_self, or_true, true_or, or_false, false_or, if_true, if_false, Int.toNat_natCast, w_ite, Nat.add_zero, reduceCtorEq, ne_eq]
    exact hQ0 k q rfl 0 S I1 L _ G (by decide) ⟨fun y _ => rfl, fun y hy hy2 => ⟨by rw [f1 y (by omega), i0 y (by omega)], rfl, wr_ne (by omega)⟩, rfl, Nat.le_refl _, Nat.le_refl _, rfl⟩ f2 f3
  have hh2 := pHead_ok hh
  rw [hh] at hQ1 hQ0
  dsimp only at hQ1 hQ0
  have fin : ∀ (room : Nat), room = (if z = 1 then 30 - cn l.toNat else 30) → XX (d + 5) 65 74 [some (.ref tr), some (.ref b), some (.int (w m)), some (.ref bk), some (.int (w z)), some (.int (w room)), some (.int (w 0))] [] (mk S I1 L (wr R tr (up (R tr) 5 (some b))) G) Q := by
    intro room hroom
    rw [← hroom] at hQ1 hQ0
    have hst2 : Strs S I1 G tr := hst1.keep (fun a ha => f1 a (by omega))
    have hTk : ∀ n S' I' L' R' G', TkF S I1 L (wr R tr (up (R tr) 5 (some b))) G tr n S' I' L' R' G' → TkF S I L R G tr n S' I' L' R' G' := fun n S' I' L' R' G' h => ⟨h.1, fun y hy hy2 => by
      obtain ⟨a1, a2, a3⟩ := h.2.1 y hy hy2
      exact ⟨by rw [a1, f1 y (by omega), i0 y (by omega)], a2, by rw [a3, wr_ne (by omega)]⟩, h.2.2⟩
    have := sp_65l (d := d) (Q := Q) (S := S) (I := I1) (L := L) (R := wr R tr (up (R tr) 5 (some b))) (G := G) (tr := tr) (b := b) (bk := bk) (m := m) (room := room) (z := z) (l := l) (t := t) hG (by rw [hroom]; split <;> omega) hS hbS hbt hst2 (by rw [f1 b (by omega)]; exact hI1.1) hI1.2.2.1 htbm (p0 := q) (fun rs hp S' I' L' R' G' h1 h2 h3 h4 h5 h6 => by
        rw [hp] at hQ1
        exact hQ1 l rs rfl S' I' L' R' G' hh2.2.1 hh2.2.2 (by rw [← hroom]; exact h1) (hTk _ _ _ _ _ _ h2) h3 h4 h5 h6) (fun k q' hp n S' I' L' R' G' h1 h2 h3 h4 => by
        rw [hp] at hQ0
        exact hQ0 k q' rfl n S' I' L' R' G' h1 (hTk _ _ _ _ _ _ h2) h3 h4) 31 q [] S I1 L _ G rfl (Nat.zero_le _) hh2.1 rfl ⟨fun y _ => rfl, fun y hy hy2 => ⟨rfl, rfl, rfl⟩, rfl, Nat.le_refl _, Nat.le_refl _, rfl⟩ (by rw [wr_same, up_same]) (by rw [f2 6 (by decide) (by decide) (by decide)]; exact i1.2.2.1) f4 (by rw [f2 1 (by decide) (by decide) (by decide)]; exact i1.1) f3 (by rw [f2 4 (by decide) (by decide) (by decide)]; exact i1.2.1) (fun i hi => absurd hi (Nat.not_lt_zero _))
    exact this
  obtain ⟨b0, b1, b2⟩ := id hB
  rcases hz with hz | hz
  · subst hz
    have := fin 30 rfl
    simp (disch := omega) only [q_65_0, q_65_1, q_65_2, q_65_5, q_65_6, q_65_7, q_65_8, q_65_9, q_65_10, q_65_13, q_65_16, q_65_19, q_65_20, q_65_21, q_65_24, q_65_25, q_65_26, q_65_29, q_65_30, q_65_31, q_65_34, q_65_35, q_65_36, q_65_39, q_65_40, q_65_43, q_65_46, q_65_47, q_65_48, q_65_50, q_65_53, q_65_55, q_65_56, q_65_57, q_65_60, q_65_63, q_65_64, q_65_67, q_65_69, q_65_71, q_65_72, q_65_76, q_65_78, q_65_81, q_65_82, q_65_85, q_65_86, q_65_89, q_65_90, q_65_93, q_65_96, q_65_97, q_65_98, q_65_99, q_65_101, q_65_104, q_65_107, q_65_108, q_65_111, q_65_114, q_65_115, q_65_118, q_65_121, q_65_122, q_65_123, q_65_124, q_65_127, q_65_130, q_65_133, q_65_134, q_65_e, va_rf_s, bz_0, bz_1, bz_ok, bb_ok, Nat.add_assoc, w_lt, w_add, w_sub, w_mul, w_div, em_def, w_eq, w_inT, ↓ilt_t, ↓ilt_f, ↓ieq_t, ↓ieq_f, ntT, w_b, w_ix, kx_v, kx_n, kl_n, kl_i, kl_r, kl_o, inA_i, inA_s, inA_b, inA_z, inA_l, inA_0, inA_4, inA_5, inA_6, inA_7, inA_8, inA_9, inA_10, al_0, al_1, al_2, al_4, al_5, al_98, bsP_2, bsP_3, wr_same, wr_wr, wr_ne, up_same, up_ne, Nat.reduceAdd, Int.reduceAdd, Int.reduceSub, Int.reduceMul, Int.reduceLT, Int.reduceLE, Int.reduceEq, Int.reduceNeg, Int.reduceToNat, Nat.reduceLT, Nat.reduceLeDiff, Nat.reduceEqDiff, ↓reduceIte, true_and, and_true, not_true_eq_false, not_false_eq_true, eq_self, or_true, true_or, or_false, false_or, if_true, if_false, Int.toNat_natCast, w_ite, Nat.add_zero, reduceCtorEq, ne_eq]
    exact this
  · subst hz
    have hl2 : l.toNat < 2 := by omega
    obtain ⟨c1, c2⟩ := hc l.toNat hl2
    have el : l = (l.toNat : Int) := by omega
    have c1' : I1 (bk + 2) l.toNat = w (cn l.toNat) := by rw [f1 _ (by omega), i0 _ (by omega)]; exact c1
    have s1' := fun {d : Nat} {Q : XO → Hp → Prop} => sp_1 (d := d) (Q := Q) (I := I1) (L := L) (R := wr R tr (up (R tr) 5 (some b))) (G := G) hB hl2 c1'
    rw [← el] at s1'
    have := fin (30 - cn l.toNat) rfl
    rw [show ((30 - cn l.toNat : Nat) : Int) = 30 - cn l.toNat by omega] at this
    simp (disch := omega) only [q_65_0, q_65_1, q_65_2, q_65_5, q_65_6, q_65_7, q_65_8, q_65_9, q_65_10, q_65_13, q_65_16, q_65_19, q_65_20, q_65_21, q_65_24, q_65_25, q_65_26, q_65_29, q_65_30, q_65_31, q_65_34, q_65_35, q_65_36, q_65_39, q_65_40, q_65_43, q_65_46, q_65_47, q_65_48, q_65_50, q_65_53, q_65_55, q_65_56, q_65_57, q_65_60, q_65_63, q_65_64, q_65_67, q_65_69, q_65_71, q_65_72, q_65_76, q_65_78, q_65_81, q_65_82, q_65_85, q_65_86, q_65_89, q_65_90, q_65_93, q_65_96, q_65_97, q_65_98, q_65_99, q_65_101, q_65_104, q_65_107, q_65_108, q_65_111, q_65_114, q_65_115, q_65_118, q_65_121, q_65_122, q_65_123, q_65_124, q_65_127, q_65_130, q_65_133, q_65_134, q_65_e, va_rf_s, bz_0, bz_1, bz_ok, bb_ok, Nat.add_assoc, w_lt, w_add, w_sub, w_mul, w_div, em_def, w_eq, w_inT, ↓ilt_t, ↓ilt_f, ↓ieq_t, ↓ieq_f, ntT, w_b, w_ix, kx_v, kx_n, kl_n, kl_i, kl_r, kl_o, inA_i, inA_s, inA_b, inA_z, inA_l, inA_0, inA_4, inA_5, inA_6, inA_7, inA_8, inA_9, inA_10, al_0, al_1, al_2, al_4, al_5, al_98, bsP_2, bsP_3, wr_same, wr_wr, wr_ne, up_same, up_ne, Nat.reduceAdd, Int.reduceAdd, Int.reduceSub, Int.reduceMul, Int.reduceLT, Int.reduceLE, Int.reduceEq, Int.reduceNeg, Int.reduceToNat, Nat.reduceLT, Nat.reduceLeDiff, Nat.reduceEqDiff, ↓reduceIte, true_and, and_true, not_true_eq_false, not_false_eq_true, eq_self, or_true, true_or, or_false, false_or, if_true, if_false, Int.toNat_natCast, w_ite, Nat.add_zero, reduceCtorEq, ne_eq, s0, f3, b0, s1']
    exact this
end

/-! a text is read -/
theorem RuleAt.keep {S S' : SH} {I I' : MI} {L L' : ML} {r : Nat} {ρ : Rl} (h : RuleAt S I L r ρ) (e : ∀ y, r ≤ y → y ≤ r + 3 → S' y = S y ∧ I' y = I y ∧ L' y = L y) : RuleAt S' I' L' r ρ := by
  obtain ⟨a0, b0, c0⟩ := e r (by omega) (by omega)
  obtain ⟨a1, b1, c1⟩ := e (r + 1) (by omega) (by omega)
  obtain ⟨a2, b2, c2⟩ := e (r + 2) (by omega) (by omega)
  obtain ⟨a3, b3, c3⟩ := e (r + 3) (by omega) (by omega)
  unfold RuleAt at h ⊢
  rw [a0, a1, a2, a3, b0, b1, b2, c3]
  exact h
theorem rs_snoc {rs : List Rl} {ρ : Rl} {i : Nat} : (rs ++ [ρ]).getD i rd0 = if i = rs.length then ρ else rs.getD i rd0 := by
  rw [List.getD_eq_getElem?_getD, List.getD_eq_getElem?_getD, List.getElem?_append]
  split
  · rename_i h
    rw [if_neg (by omega)]
  · rename_i h
    split
    · rename_i h2
      rw [h2, Nat.sub_self]; rfl
    · rename_i h2
      rw [List.getElem?_eq_none (by show 1 ≤ _; omega), List.getElem?_eq_none (by omega)]
def RdS0 (S : SH) (tr : Nat) : Prop := S tr = some (.inr 8) ∧ S (tr + 1) = some (.inl (4, 30)) ∧ S (tr + 3) = some (.inl (0, 4)) ∧ S (tr + 4) = some (.inl (0, 6)) ∧ S (tr + 5) = some (.inl (0, 6)) ∧ S (tr + 6) = some (.inl (1, 6))
/-- what reading leaves -/
def TkF (S : SH) (I : MI) (L : ML) (R : MR) (G : MG) (tr n : Nat) (S' : SH) (I' : MI) (L' : ML) (R' : MR) (G' : MG) : Prop := (∀ y, y < G.1 → S' y = S y) ∧ (∀ y, y < G.1 → (y < tr ∨ tr + 6 < y) → I' y = I y ∧ L' y = L y ∧ R' y = R y) ∧ G'.1 = G.1 + 4 * n ∧ G'.2.1 ≤ G.2.1 + 25 * n ∧ G.2.1 ≤ G'.2.1 ∧ G'.2.2 = G.2.2
theorem Strs.keep2 {S S' : SH} {I I' : MI} {G G' : MG} {lo : Nat} (h : Strs S I G lo) (e : ∀ a, a < lo → S' a = S a ∧ I' a = I a) (eg : G'.2.2 = G.2.2) : Strs S' I' G' lo := by
  unfold Strs StrAt at h ⊢
  rw [eg]
  obtain ⟨⟨a1, a2⟩, ⟨b1, b2⟩, ⟨c1, c2⟩, ⟨d1, d2⟩, ⟨e1, e2⟩⟩ := h
  rw [(e _ a2).1, (e _ a2).2, (e _ b2).1, (e _ b2).2, (e _ c2).1, (e _ c2).2, (e _ d2).1, (e _ d2).2, (e _ e2).1, (e _ e2).2]
  exact ⟨⟨a1, a2⟩, ⟨b1, b2⟩, ⟨c1, c2⟩, ⟨d1, d2⟩, ⟨e1, e2⟩⟩
section
variable {d : Nat} {Q : XO → Hp → Prop} {S : SH} {I : MI} {L : ML} {R : MR} {G : MG} {A : Hp}
/-- the rules of a text, one after another -/
theorem sp_65l {tr b bk m room : Nat} {z l : Int} {t : List Int} (hG : tr + 6 < G.1) (hroom : room ≤ 30)
    (hS : RdS0 S tr) (hbS : S b = some (.inl (2, 400))) (hbt : b < tr) (hst : Strs S I G tr) (hbI : Txt (I b) 0 (t.map sb)) (htl : t.length ≤ 400) (htb : ∀ c ∈ t, 0 ≤ c ∧ c < 256) {p0 : Nat}
    (hQ1 : ∀ rs, pRules t room 31 [] p0 = .inl rs → ∀ (S' : SH) (I' : MI) (L' : ML) (R' : MR) (G' : MG), rs.length ≤ room → TkF S I L R G tr rs.length S' I' L' R' G' → I' tr 1 = w rs.length → I' tr 2 = w l → I' tr 4 = w (-1) → (∀ i, i < rs.length → ∃ r, R' (tr + 1) i = some r ∧ G.1 ≤ r ∧ r + 3 < G'.1 ∧ RuleAt S' I' L' r (rs.getD i rd0)) → Q (.inl (some (.int (w 1)))) (mk S' I' L' R' G'))
    (hQ0 : ∀ k q, pRules t room 31 [] p0 = .inr (k, q) → ∀ (n : Nat) (S' : SH) (I' : MI) (L' : ML) (R' : MR) (G' : MG), n ≤ 30 → TkF S I L R G tr n S' I' L' R' G' → I' tr 3 = w k → I' tr 4 = w q → Q (.inl (some (.int (w 0)))) (mk S' I' L' R' G')) :
    ∀ (f p : Nat) (rs : List Rl) (S1 : SH) (I1 : MI) (L1 : ML) (R1 : MR) (G1 : MG), rs.length + f = 31 → rs.length ≤ room → p ≤ t.length → pRules t room f rs p = pRules t room 31 [] p0 → TkF S I L R G tr rs.length S1 I1 L1 R1 G1 → R1 tr 5 = some b → I1 tr 6 = w t.length → I1 tr 7 = w p → I1 tr 1 = w rs.length → I1 tr 2 = w l → I1 tr 4 = w (-1) → (∀ i, i < rs.length → ∃ r, R1 (tr + 1) i = some r ∧ G.1 ≤ r ∧ r + 3 < G1.1 ∧ RuleAt S1 I1 L1 r (rs.getD i rd0)) → XX (d + 5) 65 74 [some (.ref tr), some (.ref b), some (.int (w m)), some (.ref bk), some (.int (w z)), some (.int (w room)), some (.int (w rs.length))] [] (mk S1 I1 L1 R1 G1) Q := by
  generalize pRules t room 31 [] p0 = res at *
  intro f
  induction f with
  | zero =>
    intro p rs S1 I1 L1 R1 G1 hf hr
    omega
  | succ f ih =>
    intro p rs S1 I1 L1 R1 G1 hf hr hp he hT h5 h6 h7 h1 h2 h4 hru
    obtain ⟨t1, t2, t3, t4, t5, t6⟩ := id hT
    obtain ⟨s0, s1, s3, s4, s5, s6⟩ := hS
    have hS1 : RdS S1 R1 tr b := ⟨by rw [t1 _ (by omega)]; exact s0, by rw [t1 _ (by omega)]; exact s1, by rw [t1 _ (by omega)]; exact s3, by rw [t1 _ (by omega)]; exact s4, by rw [t1 _ (by omega)]; exact s5, by rw [t1 _ (by omega)]; exact s6, h5, by rw [t1 _ (by omega)]; exact hbS, hbt⟩
    have hI1 : RdI I1 tr b t := ⟨by rw [(t2 b (by omega) (by omega)).1]; exact hbI, h6, htl, htb⟩
    have hst1 : Strs S1 I1 G1 tr := hst.keep2 (fun a ha => ⟨t1 a (by omega), (t2 a (by omega) (by omega)).1⟩) t6
    have g0 := hS1.1
    rw [q_65_74]
    simp (disch := omega) only [q_65_0, q_65_1, q_65_2, q_65_5, q_65_6, q_65_7, q_65_8, q_65_9, q_65_10, q_65_13, q_65_16, q_65_19, q_65_20, q_65_21, q_65_24, q_65_25, q_65_26, q_65_29, q_65_30, q_65_31, q_65_34, q_65_35, q_65_36, q_65_39, q_65_40, q_65_43, q_65_46, q_65_47, q_65_48, q_65_50, q_65_53, q_65_55, q_65_56, q_65_57, q_65_60, q_65_63, q_65_64, q_65_67, q_65_69, q_65_71, q_65_72, q_65_76, q_65_78, q_65_81, q_65_82, q_65_85, q_65_86, q_65_89, q_65_90, q_65_93, q_65_96, q_65_97, q_65_98, q_65_99, q_65_101, q_65_104, q_65_107, q_65_108, q_65_111, q_65_114, q_65_115, q_65_118, q_65_121, q_65_122, q_65_123, q_65_124, q_65_127, q_65_130, q_65_133, q_65_134, q_65_e, va_rf_s, bz_0, bz_1, bz_ok, bb_ok, Nat.add_assoc, w_lt, w_add, w_sub, w_mul, w_div, em_def, w_eq, w_inT, ↓ilt_t, ↓ilt_f, ↓ieq_t, ↓ieq_f, ntT, w_b, w_ix, kx_v, kx_n, kl_n, kl_i, kl_r, kl_o, inA_i, inA_s, inA_b, inA_z, inA_l, inA_0, inA_4, inA_5, inA_6, inA_7, inA_8, inA_9, inA_10, al_0, al_1, al_2, al_4, al_5, al_98, bsP_2, bsP_3, wr_same, wr_wr, wr_ne, up_same, up_ne, Nat.reduceAdd, Int.reduceAdd, Int.reduceSub, Int.reduceMul, Int.reduceLT, Int.reduceLE, Int.reduceEq, Int.reduceNeg, Int.reduceToNat, Nat.reduceLT, Nat.reduceLeDiff, Nat.reduceEqDiff, ↓reduceIte, true_and, and_true, not_true_eq_false, not_false_eq_true, eq_self, or_true, true_or, or_false, false_or, if_true, if_false, Int.toNat_natCast, w_ite, Nat.add_zero, reduceCtorEq, ne_eq, g0]
    refine sp_76 hS1 hI1 h7 hp (fun I2 f1 f2 f3 => ?_)
    have hs := skb_le hp
    have hI2 : RdI I2 tr b t := hI1.keep (f1 b (by omega)) (f2 6 (by decide))
    have hst2 := hst1.keep (I' := I2) (fun a ha => f1 a (by omega))
    have e6 := hI2.2.1
    have e1 : I2 tr 1 = w rs.length := by rw [f2 1 (by decide)]; exact h1
    have fr2 : TkF S I L R G tr rs.length S1 I2 L1 R1 G1 := ⟨t1, fun y hy hy2 => by rw [f1 y (by omega)]; exact t2 y hy hy2, t3, t4, t5, t6⟩
    have ru2 : ∀ i, i < rs.length → ∃ r, R1 (tr + 1) i = some r ∧ G.1 ≤ r ∧ r + 3 < G1.1 ∧ RuleAt S1 I2 L1 r (rs.getD i rd0) := fun i hi => by
      obtain ⟨r, r1, r2, r3, r4⟩ := hru i hi
      exact ⟨r, r1, r2, r3, r4.keep (fun y h1 h2 => ⟨rfl, f1 y (by omega), rfl⟩)⟩
    unfold pRules at he
    generalize hsk : skb t p = s at *
    by_cases c : t.length ≤ s
    · rw [if_pos c] at he
      simp (disch := omega) only [q_65_0, q_65_1, q_65_2, q_65_5, q_65_6, q_65_7, q_65_8, q_65_9, q_65_10, q_65_13, q_65_16, q_65_19, q_65_20, q_65_21, q_65_24, q_65_25, q_65_26, q_65_29, q_65_30, q_65_31, q_65_34, q_65_35, q_65_36, q_65_39, q_65_40, q_65_43, q_65_46, q_65_47, q_65_48, q_65_50, q_65_53, q_65_55, q_65_56, q_65_57, q_65_60, q_65_63, q_65_64, q_65_67, q_65_69, q_65_71, q_65_72, q_65_76, q_65_78, q_65_81, q_65_82, q_65_85, q_65_86, q_65_89, q_65_90, q_65_93, q_65_96, q_65_97, q_65_98, q_65_99, q_65_101, q_65_104, q_65_107, q_65_108, q_65_111, q_65_114, q_65_115, q_65_118, q_65_121, q_65_122, q_65_123, q_65_124, q_65_127, q_65_130, q_65_133, q_65_134, q_65_e, va_rf_s, bz_0, bz_1, bz_ok, bb_ok, Nat.add_assoc, w_lt, w_add, w_sub, w_mul, w_div, em_def, w_eq, w_inT, ↓ilt_t, ↓ilt_f, ↓ieq_t, ↓ieq_f, ntT, w_b, w_ix, kx_v, kx_n, kl_n, kl_i, kl_r, kl_o, inA_i, inA_s, inA_b, inA_z, inA_l, inA_0, inA_4, inA_5, inA_6, inA_7, inA_8, inA_9, inA_10, al_0, al_1, al_2, al_4, al_5, al_98, bsP_2, bsP_3, wr_same, wr_wr, wr_ne, up_same, up_ne, Nat.reduceAdd, Int.reduceAdd, Int.reduceSub, Int.reduceMul, Int.reduceLT, Int.reduceLE, Int.reduceEq, Int.reduceNeg, Int.reduceToNat, Nat.reduceLT, Nat.reduceLeDiff, Nat.reduceEqDiff, ↓reduceIte, true_and, and_true, not_true_eq_false, not_false_eq_true, eq_self, or_true, true_or, or_false, false_or, if_true, if_false, Int.toNat_natCast, w_ite, Nat.add_zero, reduceCtorEq, ne_eq, g0, f3, e6]
      exact hQ1 rs he.symm S1 I2 L1 R1 G1 hr fr2 e1 (by rw [f2 2 (by decide)]; exact h2) (by rw [f2 4 (by decide)]; exact h4) ru2
    · rw [if_neg c] at he
      simp (disch := omega) only [q_65_0, q_65_1, q_65_2, q_65_5, q_65_6, q_65_7, q_65_8, q_65_9, q_65_10, q_65_13, q_65_16, q_65_19, q_65_20, q_65_21, q_65_24, q_65_25, q_65_26, q_65_29, q_65_30, q_65_31, q_65_34, q_65_35, q_65_36, q_65_39, q_65_40, q_65_43, q_65_46, q_65_47, q_65_48, q_65_50, q_65_53, q_65_55, q_65_56, q_65_57, q_65_60, q_65_63, q_65_64, q_65_67, q_65_69, q_65_71, q_65_72, q_65_76, q_65_78, q_65_81, q_65_82, q_65_85, q_65_86, q_65_89, q_65_90, q_65_93, q_65_96, q_65_97, q_65_98, q_65_99, q_65_101, q_65_104, q_65_107, q_65_108, q_65_111, q_65_114, q_65_115, q_65_118, q_65_121, q_65_122, q_65_123, q_65_124, q_65_127, q_65_130, q_65_133, q_65_134, q_65_e, va_rf_s, bz_0, bz_1, bz_ok, bb_ok, Nat.add_assoc, w_lt, w_add, w_sub, w_mul, w_div, em_def, w_eq, w_inT, ↓ilt_t, ↓ilt_f, ↓ieq_t, ↓ieq_f, ntT, w_b, w_ix, kx_v, kx_n, kl_n, kl_i, kl_r, kl_o, inA_i, inA_s, inA_b, inA_z, inA_l, inA_0, inA_4, inA_5, inA_6, inA_7, inA_8, inA_9, inA_10, al_0, al_1, al_2, al_4, al_5, al_98, bsP_2, bsP_3, wr_same, wr_wr, wr_ne, up_same, up_ne, Nat.reduceAdd, Int.reduceAdd, Int.reduceSub, Int.reduceMul, Int.reduceLT, Int.reduceLE, Int.reduceEq, Int.reduceNeg, Int.reduceToNat, Nat.reduceLT, Nat.reduceLeDiff, Nat.reduceEqDiff, ↓reduceIte, true_and, and_true, not_true_eq_false, not_false_eq_true, eq_self, or_true, true_or, or_false, false_or, if_true, if_false, Int.toNat_natCast, w_ite, Nat.add_zero, reduceCtorEq, ne_eq, g0, f3, e6]
      refine sp_67 (p := s) hS1 hI2 hst2 f3 hs hroom e1 (by omega) (fun q hk hlt I3 a1 a2 a3 => ?_) (fun k hk0 hk1 I3 a1 a2 a3 => ?_)
      case refine_2 =>
        simp (disch := omega) only [q_65_0, q_65_1, q_65_2, q_65_5, q_65_6, q_65_7, q_65_8, q_65_9, q_65_10, q_65_13, q_65_16, q_65_19, q_65_20, q_65_21, q_65_24, q_65_25, q_65_26, q_65_29, q_65_30, q_65_31, q_65_34, q_65_35, q_65_36, q_65_39, q_65_40, q_65_43, q_65_46, q_65_47, q_65_48, q_65_50, q_65_53, q_65_55, q_65_56, q_65_57, q_65_60, q_65_63, q_65_64, q_65_67, q_65_69, q_65_71, q_65_72, q_65_76, q_65_78, q_65_81, q_65_82, q_65_85, q_65_86, q_65_89, q_65_90, q_65_93, q_65_96, q_65_97, q_65_98, q_65_99, q_65_101, q_65_104, q_65_107, q_65_108, q_65_111, q_65_114, q_65_115, q_65_118, q_65_121, q_65_122, q_65_123, q_65_124, q_65_127, q_65_130, q_65_133, q_65_134, q_65_e, va_rf_s, bz_0, bz_1, bz_ok, bb_ok, Nat.add_assoc, w_lt, w_add, w_sub, w_mul, w_div, em_def, w_eq, w_inT, ↓ilt_t, ↓ilt_f, ↓ieq_t, ↓ieq_f, ntT, w_b, w_ix, kx_v, kx_n, kl_n, kl_i, kl_r, kl_o, inA_i, inA_s, inA_b, inA_z, inA_l, inA_0, inA_4, inA_5, inA_6, inA_7, inA_8, inA_9, inA_10, al_0, al_1, al_2, al_4, al_5, al_98, bsP_2, bsP_3, wr_same, wr_wr, wr_ne, up_same, up_ne, Nat.reduceAdd, Int.reduceAdd, Int.reduceSub, Int.reduceMul, Int.reduceLT, Int.reduceLE, Int.reduceEq, Int.reduceNeg, Int.reduceToNat, Nat.reduceLT, Nat.reduceLeDiff, Nat.reduceEqDiff, ↓reduceIte, true_and, and_true, not_true_eq_false, not_false_eq_true, eq_self, or_true, true_or, or_false, false_or, if_true, if_false, Int.toNat_natCast, w_ite, Nat.add_zero, reduceCtorEq, ne_eq]
        have fr3 : TkF S I L R G tr rs.length S1 I3 L1 R1 G1 := ⟨t1, fun y hy hy2 => by rw [a1 y (by omega)]; exact fr2.2.1 y hy hy2, t3, t4, t5, t6⟩
        refine hQ0 k s ?_ rs.length S1 I3 L1 R1 G1 (by omega) fr3 a2 a3
        rw [← he]
        cases hk : kw t kwSay s with
        | none => rw [hk0 hk]
        | some q =>
          obtain ⟨h1, h2⟩ := hk1 q hk
          dsimp only
          rw [if_pos h1, h2]
      have hq := (kw_ok hk hs).1
      rw [hk] at he
      dsimp only at he
      rw [if_neg (by omega)] at he
      have hI3 : RdI I3 tr b t := hI2.keep (a1 b (by omega)) (a2 6 (by decide))
      have hst3 := hst2.keep (I' := I3) (fun a ha => a1 a (by omega))
      unfold pRule at he
      simp (disch := omega) only [q_65_0, q_65_1, q_65_2, q_65_5, q_65_6, q_65_7, q_65_8, q_65_9, q_65_10, q_65_13, q_65_16, q_65_19, q_65_20, q_65_21, q_65_24, q_65_25, q_65_26, q_65_29, q_65_30, q_65_31, q_65_34, q_65_35, q_65_36, q_65_39, q_65_40, q_65_43, q_65_46, q_65_47, q_65_48, q_65_50, q_65_53, q_65_55, q_65_56, q_65_57, q_65_60, q_65_63, q_65_64, q_65_67, q_65_69, q_65_71, q_65_72, q_65_76, q_65_78, q_65_81, q_65_82, q_65_85, q_65_86, q_65_89, q_65_90, q_65_93, q_65_96, q_65_97, q_65_98, q_65_99, q_65_101, q_65_104, q_65_107, q_65_108, q_65_111, q_65_114, q_65_115, q_65_118, q_65_121, q_65_122, q_65_123, q_65_124, q_65_127, q_65_130, q_65_133, q_65_134, q_65_e, va_rf_s, bz_0, bz_1, bz_ok, bb_ok, Nat.add_assoc, w_lt, w_add, w_sub, w_mul, w_div, em_def, w_eq, w_inT, ↓ilt_t, ↓ilt_f, ↓ieq_t, ↓ieq_f, ntT, w_b, w_ix, kx_v, kx_n, kl_n, kl_i, kl_r, kl_o, inA_i, inA_s, inA_b, inA_z, inA_l, inA_0, inA_4, inA_5, inA_6, inA_7, inA_8, inA_9, inA_10, al_0, al_1, al_2, al_4, al_5, al_98, bsP_2, bsP_3, wr_same, wr_wr, wr_ne, up_same, up_ne, Nat.reduceAdd, Int.reduceAdd, Int.reduceSub, Int.reduceMul, Int.reduceLT, Int.reduceLE, Int.reduceEq, Int.reduceNeg, Int.reduceToNat, Nat.reduceLT, Nat.reduceLeDiff, Nat.reduceEqDiff, ↓reduceIte, true_and, and_true, not_true_eq_false, not_false_eq_true, eq_self, or_true, true_or, or_false, false_or, if_true, if_false, Int.toNat_natCast, w_ite, Nat.add_zero, reduceCtorEq, ne_eq, g0]
      refine sp_69 (p := q) hS1 hI3 hst3 a3 hq (fun x q2 hx I4 b1 b2 b3 b4 => ?_) (fun k q2 hx I4 b1 b2 b3 => ?_)
      case refine_2 =>
        rw [hx] at he
        dsimp only at he
        simp (disch := omega) only [q_65_0, q_65_1, q_65_2, q_65_5, q_65_6, q_65_7, q_65_8, q_65_9, q_65_10, q_65_13, q_65_16, q_65_19, q_65_20, q_65_21, q_65_24, q_65_25, q_65_26, q_65_29, q_65_30, q_65_31, q_65_34, q_65_35, q_65_36, q_65_39, q_65_40, q_65_43, q_65_46, q_65_47, q_65_48, q_65_50, q_65_53, q_65_55, q_65_56, q_65_57, q_65_60, q_65_63, q_65_64, q_65_67, q_65_69, q_65_71, q_65_72, q_65_76, q_65_78, q_65_81, q_65_82, q_65_85, q_65_86, q_65_89, q_65_90, q_65_93, q_65_96, q_65_97, q_65_98, q_65_99, q_65_101, q_65_104, q_65_107, q_65_108, q_65_111, q_65_114, q_65_115, q_65_118, q_65_121, q_65_122, q_65_123, q_65_124, q_65_127, q_65_130, q_65_133, q_65_134, q_65_e, va_rf_s, bz_0, bz_1, bz_ok, bb_ok, Nat.add_assoc, w_lt, w_add, w_sub, w_mul, w_div, em_def, w_eq, w_inT, ↓ilt_t, ↓ilt_f, ↓ieq_t, ↓ieq_f, ntT, w_b, w_ix, kx_v, kx_n, kl_n, kl_i, kl_r, kl_o, inA_i, inA_s, inA_b, inA_z, inA_l, inA_0, inA_4, inA_5, inA_6, inA_7, inA_8, inA_9, inA_10, al_0, al_1, al_2, al_4, al_5, al_98, bsP_2, bsP_3, wr_same, wr_wr, wr_ne, up_same, up_ne, Nat.reduceAdd, Int.reduceAdd, Int.reduceSub, Int.reduceMul, Int.reduceLT, Int.reduceLE, Int.reduceEq, Int.reduceNeg, Int.reduceToNat, Nat.reduceLT, Nat.reduceLeDiff, Nat.reduceEqDiff, ↓reduceIte, true_and, and_true, not_true_eq_false, not_false_eq_true, eq_self, or_true, true_or, or_false, false_or, if_true, if_false, Int.toNat_natCast, w_ite, Nat.add_zero, reduceCtorEq, ne_eq]
        exact hQ0 k q2 he.symm rs.length S1 I4 L1 R1 G1 (by omega) ⟨t1, fun y hy hy2 => by rw [b1 y (by omega) (by omega), a1 y (by omega)]; exact fr2.2.1 y hy hy2, t3, t4, t5, t6⟩ b2 b3
      have hx2 := pRange_ok hx hq
      rw [hx] at he
      dsimp only at he
      have hI4 : RdI I4 tr b t := hI3.keep (b1 b (by omega) (by omega)) (b2 6 (by decide) (by decide))
      simp (disch := omega) only [q_65_0, q_65_1, q_65_2, q_65_5, q_65_6, q_65_7, q_65_8, q_65_9, q_65_10, q_65_13, q_65_16, q_65_19, q_65_20, q_65_21, q_65_24, q_65_25, q_65_26, q_65_29, q_65_30, q_65_31, q_65_34, q_65_35, q_65_36, q_65_39, q_65_40, q_65_43, q_65_46, q_65_47, q_65_48, q_65_50, q_65_53, q_65_55, q_65_56, q_65_57, q_65_60, q_65_63, q_65_64, q_65_67, q_65_69, q_65_71, q_65_72, q_65_76, q_65_78, q_65_81, q_65_82, q_65_85, q_65_86, q_65_89, q_65_90, q_65_93, q_65_96, q_65_97, q_65_98, q_65_99, q_65_101, q_65_104, q_65_107, q_65_108, q_65_111, q_65_114, q_65_115, q_65_118, q_65_121, q_65_122, q_65_123, q_65_124, q_65_127, q_65_130, q_65_133, q_65_134, q_65_e, va_rf_s, bz_0, bz_1, bz_ok, bb_ok, Nat.add_assoc, w_lt, w_add, w_sub, w_mul, w_div, em_def, w_eq, w_inT, ↓ilt_t, ↓ilt_f, ↓ieq_t, ↓ieq_f, ntT, w_b, w_ix, kx_v, kx_n, kl_n, kl_i, kl_r, kl_o, inA_i, inA_s, inA_b, inA_z, inA_l, inA_0, inA_4, inA_5, inA_6, inA_7, inA_8, inA_9, inA_10, al_0, al_1, al_2, al_4, al_5, al_98, bsP_2, bsP_3, wr_same, wr_wr, wr_ne, up_same, up_ne, Nat.reduceAdd, Int.reduceAdd, Int.reduceSub, Int.reduceMul, Int.reduceLT, Int.reduceLE, Int.reduceEq, Int.reduceNeg, Int.reduceToNat, Nat.reduceLT, Nat.reduceLeDiff, Nat.reduceEqDiff, ↓reduceIte, true_and, and_true, not_true_eq_false, not_false_eq_true, eq_self, or_true, true_or, or_false, false_or, if_true, if_false, Int.toNat_natCast, w_ite, Nat.add_zero, reduceCtorEq, ne_eq, g0]
      refine sp_70 (p := q2) hS1 hI4 b3 hx2.1 (fun its q3 hi I5 L5 c1 c2 c3 c4 c5 => ?_) (fun k q3 hi I5 L5 c1 c2 c3 c4 => ?_)
      case refine_2 =>
        rw [hi] at he
        dsimp only at he
        simp (disch := omega) only [q_65_0, q_65_1, q_65_2, q_65_5, q_65_6, q_65_7, q_65_8, q_65_9, q_65_10, q_65_13, q_65_16, q_65_19, q_65_20, q_65_21, q_65_24, q_65_25, q_65_26, q_65_29, q_65_30, q_65_31, q_65_34, q_65_35, q_65_36, q_65_39, q_65_40, q_65_43, q_65_46, q_65_47, q_65_48, q_65_50, q_65_53, q_65_55, q_65_56, q_65_57, q_65_60, q_65_63, q_65_64, q_65_67, q_65_69, q_65_71, q_65_72, q_65_76, q_65_78, q_65_81, q_65_82, q_65_85, q_65_86, q_65_89, q_65_90, q_65_93, q_65_96, q_65_97, q_65_98, q_65_99, q_65_101, q_65_104, q_65_107, q_65_108, q_65_111, q_65_114, q_65_115, q_65_118, q_65_121, q_65_122, q_65_123, q_65_124, q_65_127, q_65_130, q_65_133, q_65_134, q_65_e, va_rf_s, bz_0, bz_1, bz_ok, bb_ok, Nat.add_assoc, w_lt, w_add, w_sub, w_mul, w_div, em_def, w_eq, w_inT, ↓ilt_t, ↓ilt_f, ↓ieq_t, ↓ieq_f, ntT, w_b, w_ix, kx_v, kx_n, kl_n, kl_i, kl_r, kl_o, inA_i, inA_s, inA_b, inA_z, inA_l, inA_0, inA_4, inA_5, inA_6, inA_7, inA_8, inA_9, inA_10, al_0, al_1, al_2, al_4, al_5, al_98, bsP_2, bsP_3, wr_same, wr_wr, wr_ne, up_same, up_ne, Nat.reduceAdd, Int.reduceAdd, Int.reduceSub, Int.reduceMul, Int.reduceLT, Int.reduceLE, Int.reduceEq, Int.reduceNeg, Int.reduceToNat, Nat.reduceLT, Nat.reduceLeDiff, Nat.reduceEqDiff, ↓reduceIte, true_and, and_true, not_true_eq_false, not_false_eq_true, eq_self, or_true, true_or, or_false, false_or, if_true, if_false, Int.toNat_natCast, w_ite, Nat.add_zero, reduceCtorEq, ne_eq]
        exact hQ0 k q3 he.symm rs.length S1 I5 L5 R1 G1 (by omega) ⟨t1, fun y hy hy2 => by rw [c1 y (by omega) (by omega) (by omega), c2 y (by omega), b1 y (by omega) (by omega), a1 y (by omega)]; exact fr2.2.1 y hy hy2, t3, t4, t5, t6⟩ c3 c4
      have hi2 := pItems_ok _ _ _ _ _ _ hi hx2.1 (Nat.zero_le _) (fun it hit => nomatch hit)
      rw [hi] at he
      dsimp only at he
      have hok : rlOk (x.1, x.2.1, x.2.2.1, x.2.2.2, its) := ⟨hx2.2.1, hx2.2.2.1, hx2.2.2.2.1, hx2.2.2.2.2.1, hx2.2.2.2.2.2.1, hx2.2.2.2.2.2.2.1, hx2.2.2.2.2.2.2.2, hi2.2⟩
      have e5 : I5 tr 1 = w rs.length := by rw [c3 1 (by decide) (by decide) (by decide), b2 1 (by decide) (by decide), a2 1 (by decide)]; exact e1
      have g5 : RgAt I5 tr x := by unfold RgAt; rw [c1 _ (by omega) (by omega) (by omega)]; exact b4
      have hG1 : tr + 6 < G1.1 := by omega
      simp (disch := omega) only [q_65_0, q_65_1, q_65_2, q_65_5, q_65_6, q_65_7, q_65_8, q_65_9, q_65_10, q_65_13, q_65_16, q_65_19, q_65_20, q_65_21, q_65_24, q_65_25, q_65_26, q_65_29, q_65_30, q_65_31, q_65_34, q_65_35, q_65_36, q_65_39, q_65_40, q_65_43, q_65_46, q_65_47, q_65_48, q_65_50, q_65_53, q_65_55, q_65_56, q_65_57, q_65_60, q_65_63, q_65_64, q_65_67, q_65_69, q_65_71, q_65_72, q_65_76, q_65_78, q_65_81, q_65_82, q_65_85, q_65_86, q_65_89, q_65_90, q_65_93, q_65_96, q_65_97, q_65_98, q_65_99, q_65_101, q_65_104, q_65_107, q_65_108, q_65_111, q_65_114, q_65_115, q_65_118, q_65_121, q_65_122, q_65_123, q_65_124, q_65_127, q_65_130, q_65_133, q_65_134, q_65_e, va_rf_s, bz_0, bz_1, bz_ok, bb_ok, Nat.add_assoc, w_lt, w_add, w_sub, w_mul, w_div, em_def, w_eq, w_inT, ↓ilt_t, ↓ilt_f, ↓ieq_t, ↓ieq_f, ntT, w_b, w_ix, kx_v, kx_n, kl_n, kl_i, kl_r, kl_o, inA_i, inA_s, inA_b, inA_z, inA_l, inA_0, inA_4, inA_5, inA_6, inA_7, inA_8, inA_9, inA_10, al_0, al_1, al_2, al_4, al_5, al_98, bsP_2, bsP_3, wr_same, wr_wr, wr_ne, up_same, up_ne, Nat.reduceAdd, Int.reduceAdd, Int.reduceSub, Int.reduceMul, Int.reduceLT, Int.reduceLE, Int.reduceEq, Int.reduceNeg, Int.reduceToNat, Nat.reduceLT, Nat.reduceLeDiff, Nat.reduceEqDiff, ↓reduceIte, true_and, and_true, not_true_eq_false, not_false_eq_true, eq_self, or_true, true_or, or_false, false_or, if_true, if_false, Int.toNat_natCast, w_ite, Nat.add_zero, reduceCtorEq, ne_eq, g0]
      refine sp_68 (n := rs.length) hS1 e5 (by omega) g5 c5 hok hG1 (fun S6 I6 L6 d1 d2 d3 d4 d5 d6 => ?_)
      have := ih q3 (rs ++ [(x.1, x.2.1, x.2.2.1, x.2.2.2, its)]) S6 I6 L6 (wr R1 (tr + 1) (up (R1 (tr + 1)) rs.length (some G1.1))) (G1.1 + 4, G1.2.1 + (7 + 3 * its.length), G1.2.2) (by rw [List.length_append]; show rs.length + 1 + f = 31; omega) (by rw [List.length_append]; show rs.length + 1 ≤ room; omega) hi2.1 he
        ⟨fun y hy => by rw [d1 y (by omega)]; exact t1 y hy, fun y hy hy2 => by
          rw [d2 y (by omega) (by omega), d5 y (by omega), wr_ne (by omega), c1 y (by omega) (by omega) (by omega), c2 y (by omega), b1 y (by omega) (by omega), a1 y (by omega)]; exact fr2.2.1 y hy hy2,
          by rw [List.length_append]; show G1.1 + 4 = G.1 + 4 * (rs.length + 1); omega, by rw [List.length_append]; show G1.2.1 + (7 + 3 * its.length) ≤ G.2.1 + 25 * (rs.length + 1); have := hi2.2.2.1; omega, by show G.2.1 ≤ G1.2.1 + _; omega, t6⟩
        (by rw [wr_ne (by omega)]; exact h5) (by rw [d3 6 (by decide), c3 6 (by decide) (by decide) (by decide)]; exact hI4.2.1) (by rw [d3 7 (by decide)]; exact c4) (by rw [d4, List.length_append]; rfl) (by rw [d3 2 (by decide), c3 2 (by decide) (by decide) (by decide), b2 2 (by decide) (by decide), a2 2 (by decide), f2 2 (by decide)]; exact h2) (by rw [d3 4 (by decide), c3 4 (by decide) (by decide) (by decide), b2 4 (by decide) (by decide), a2 4 (by decide), f2 4 (by decide)]; exact h4)
        (fun i hi' => by
          rw [rs_snoc, wr_same]
          by_cases ci : i = rs.length
          · rw [if_pos ci, ci, up_same]
            exact ⟨G1.1, rfl, by omega, by show G1.1 + 3 < G1.1 + 4; omega, d6⟩
          · rw [if_neg ci, up_ne ci]
            rw [List.length_append] at hi'
            have hi3 : i < rs.length := by simp only [List.length_cons, List.length_nil] at hi'; omega
            obtain ⟨r, r1, r2, r3, r4⟩ := ru2 i hi3
            exact ⟨r, r1, r2, by show r + 3 < G1.1 + 4; omega, r4.keep (fun y h1 h2 => ⟨d1 y (by omega), by rw [d2 y (by omega) (by omega), c1 y (by omega) (by omega) (by omega), b1 y (by omega) (by omega), a1 y (by omega)], by rw [d5 y (by omega), c2 y (by omega)]⟩)⟩)
      rw [List.length_append] at this
      simp only [List.length_cons, List.length_nil, Nat.zero_add, Int.natCast_add, Int.natCast_one] at this
      simp (disch := omega) only [q_65_0, q_65_1, q_65_2, q_65_5, q_65_6, q_65_7, q_65_8, q_65_9, q_65_10, q_65_13, q_65_16, q_65_19, q_65_20, q_65_21, q_65_24, q_65_25, q_65_26, q_65_29, q_65_30, q_65_31, q_65_34, q_65_35, q_65_36, q_65_39, q_65_40, q_65_43, q_65_46, q_65_47, q_65_48, q_65_50, q_65_53, q_65_55, q_65_56, q_65_57, q_65_60, q_65_63, q_65_64, q_65_67, q_65_69, q_65_71, q_65_72, q_65_76, q_65_78, q_65_81, q_65_82, q_65_85, q_65_86, q_65_89, q_65_90, q_65_93, q_65_96, q_65_97, q_65_98, q_65_99, q_65_101, q_65_104, q_65_107, q_65_108, q_65_111, q_65_114, q_65_115, q_65_118, q_65_121, q_65_122, q_65_123, q_65_124, q_65_127, q_65_130, q_65_133, q_65_134, q_65_e, va_rf_s, bz_0, bz_1, bz_ok, bb_ok, Nat.add_assoc, w_lt, w_add, w_sub, w_mul, w_div, em_def, w_eq, w_inT, ↓ilt_t, ↓ilt_f, ↓ieq_t, ↓ieq_f, ntT, w_b, w_ix, kx_v, kx_n, kl_n, kl_i, kl_r, kl_o, inA_i, inA_s, inA_b, inA_z, inA_l, inA_0, inA_4, inA_5, inA_6, inA_7, inA_8, inA_9, inA_10, al_0, al_1, al_2, al_4, al_5, al_98, bsP_2, bsP_3, wr_same, wr_wr, wr_ne, up_same, up_ne, Nat.reduceAdd, Int.reduceAdd, Int.reduceSub, Int.reduceMul, Int.reduceLT, Int.reduceLE, Int.reduceEq, Int.reduceNeg, Int.reduceToNat, Nat.reduceLT, Nat.reduceLeDiff, Nat.reduceEqDiff, ↓reduceIte, true_and, and_true, not_true_eq_false, not_false_eq_true, eq_self, or_true, true_or, or_false, false_or, if_true, if_false, Int.toNat_natCast, w_ite, Nat.add_zero, reduceCtorEq, ne_eq]
      exact this
end

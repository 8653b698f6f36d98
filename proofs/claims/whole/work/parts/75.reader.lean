/-! the reader's small methods -/
def RdS (S : SH) (R : MR) (tr b : Nat) : Prop := S tr = some (.inr 8) ∧ S (tr + 1) = some (.inl (4, 30)) ∧ S (tr + 3) = some (.inl (0, 4)) ∧ S (tr + 4) = some (.inl (0, 6)) ∧ S (tr + 5) = some (.inl (0, 6)) ∧ S (tr + 6) = some (.inl (1, 6)) ∧ R tr 5 = some b ∧ S b = some (.inl (2, 400)) ∧ b < tr
def RdI (I : MI) (tr b : Nat) (t : List Int) : Prop := Txt (I b) 0 (t.map sb) ∧ I tr 6 = w t.length ∧ t.length ≤ 400 ∧ ∀ c ∈ t, 0 ≤ c ∧ c < 256
theorem RdI.get {I : MI} {tr b : Nat} {t : List Int} (h : RdI I tr b t) {k : Nat} (hk : k < t.length) : I b k = w (sb (t.getD k 0)) ∧ 0 ≤ t.getD k 0 ∧ t.getD k 0 < 256 ∧ (sb (t.getD k 0)) % 256 = t.getD k 0 := by
  have h1 := h.1 k (by rw [List.length_map]; exact hk)
  rw [Nat.zero_add] at h1
  have e : t.getD k 0 = t[k] := by rw [List.getD_eq_getElem?_getD, List.getElem?_eq_getElem hk]; rfl
  have e2 : (t.map sb).getD k 0 = sb (t.getD k 0) := by
    rw [List.getD_eq_getElem?_getD, List.getElem?_map, List.getElem?_eq_getElem hk, e]; rfl
  have h2 := h.2.2.2 (t.getD k 0) (by rw [e]; exact List.getElem_mem hk)
  refine ⟨by rw [h1, e2], h2.1, h2.2, ?_⟩
  unfold sb
  split <;> omega
theorem RdI.keep {I I' : MI} {tr b : Nat} {t : List Int} (h : RdI I tr b t) (hb : I' b = I b) (h6 : I' tr 6 = I tr 6) : RdI I' tr b t := ⟨by rw [hb]; exact h.1, h6.trans h.2.1, h.2.2⟩
section
variable {d : Nat} {Q : XO → Hp → Prop} {S : SH} {I : MI} {L : ML} {R : MR} {G : MG} {A : Hp}
variable {tr b : Nat} {t : List Int}
theorem sp_79 {k q : Int32} (h : S tr = some (.inr 8)) : XC d 79 [.ref tr, .int k, .int q] (mk S I L R G) Q ↔ Q (.inl (some (.int (w 0)))) (mk S (wr I tr (up (up (I tr) 3 k) 4 q)) L R G) := by
  simp (disch := omega) only [q_79_0, q_79_1, q_79_2, q_79_5, q_79_6, q_79_7, q_79_10, q_79_11, q_79_e, va_rf_s, bz_0, bz_1, bz_ok, bb_ok, Nat.add_assoc, w_lt, w_add, w_sub, w_mul, w_div, em_def, w_eq, w_inT, ↓ilt_t, ↓ilt_f, ↓ieq_t, ↓ieq_f, ntT, w_b, w_ix, kx_v, kx_n, kl_n, kl_i, kl_r, kl_o, inA_i, inA_s, inA_b, inA_z, inA_l, inA_0, inA_4, inA_5, inA_6, inA_7, inA_8, inA_9, inA_10, al_0, al_1, al_2, al_4, al_5, al_98, bsP_2, bsP_3, wr_same, wr_wr, wr_ne, up_same, up_ne, Nat.reduceAdd, Int.reduceAdd, Int.reduceSub, Int.reduceMul, Int.reduceLT, Int.reduceLE, Int.reduceEq, Int.reduceNeg, Int.reduceToNat, Nat.reduceLT, Nat.reduceLeDiff, Nat.reduceEqDiff, ↓reduceIte, true_and, and_true, not_true_eq_false, not_false_eq_true, eq_self, or_true, true_or, or_false, false_or, if_true, if_false, Int.toNat_natCast, w_ite, Nat.add_zero, reduceCtorEq, ne_eq, h]
theorem sp_78 {k : Nat} (hS : RdS S R tr b) (hI : RdI I tr b t) (hk : k < t.length) : XC d 78 [.ref tr, .int (w k)] (mk S I L R G) Q ↔ Q (.inl (some (.int (w (t.getD k 0))))) (mk S I L R G) := by
  obtain ⟨g0, g1, g3, g4, g5, g6, r5, gb, hb⟩ := hS
  obtain ⟨e1, e2, e3, e4⟩ := hI.get hk
  have h400 := hI.2.2.1
  have e5 : w (sb (t.getD k 0)) &&& w 255 = w (t.getD k 0) := by rw [w_255, e4]
  simp (disch := omega) only [q_78_0, q_78_1, q_78_4, q_78_5, q_78_6, q_78_9, q_78_10, q_78_13, q_78_14, q_78_17, q_78_18, q_78_19, q_78_22, q_78_23, q_78_26, q_78_27, q_78_e, va_rf_s, bz_0, bz_1, bz_ok, bb_ok, Nat.add_assoc, w_lt, w_add, w_sub, w_mul, w_div, em_def, w_eq, w_inT, ↓ilt_t, ↓ilt_f, ↓ieq_t, ↓ieq_f, ntT, w_b, w_ix, kx_v, kx_n, kl_n, kl_i, kl_r, kl_o, inA_i, inA_s, inA_b, inA_z, inA_l, inA_0, inA_4, inA_5, inA_6, inA_7, inA_8, inA_9, inA_10, al_0, al_1, al_2, al_4, al_5, al_98, bsP_2, bsP_3, wr_same, wr_wr, wr_ne, up_same, up_ne, Nat.reduceAdd, Int.reduceAdd, Int.reduceSub, Int.reduceMul, Int.reduceLT, Int.reduceLE, Int.reduceEq, Int.reduceNeg, Int.reduceToNat, Nat.reduceLT, Nat.reduceLeDiff, Nat.reduceEqDiff, ↓reduceIte, true_and, and_true, not_true_eq_false, not_false_eq_true, eq_self, or_true, true_or, or_false, false_or, if_true, if_false, Int.toNat_natCast, w_ite, Nat.add_zero, reduceCtorEq, ne_eq, g0, r5, gb, e1, e5]
theorem sp_77 {p : Nat} (hS : RdS S R tr b) (hI : RdI I tr b t) (h7 : I tr 7 = w p) (hp : p ≤ t.length) : XC (d + 1) 77 [.ref tr] (mk S I L R G) Q ↔ Q (.inl (some (.int (w (bt t p))))) (mk S I L R G) := by
  have h400 := hI.2.2.1
  unfold bt
  by_cases c : p < t.length
  · rw [if_pos c]
    have s78 := fun {d : Nat} {Q : XO → Hp → Prop} => sp_78 (d := d) (Q := Q) (L := L) (G := G) hS hI c
    simp (disch := omega) only [q_77_0, q_77_1, q_77_4, q_77_5, q_77_8, q_77_11, q_77_12, q_77_13, q_77_16, q_77_19, q_77_22, q_77_23, q_77_e, va_rf_s, bz_0, bz_1, bz_ok, bb_ok, Nat.add_assoc, w_lt, w_add, w_sub, w_mul, w_div, em_def, w_eq, w_inT, ↓ilt_t, ↓ilt_f, ↓ieq_t, ↓ieq_f, ntT, w_b, w_ix, kx_v, kx_n, kl_n, kl_i, kl_r, kl_o, inA_i, inA_s, inA_b, inA_z, inA_l, inA_0, inA_4, inA_5, inA_6, inA_7, inA_8, inA_9, inA_10, al_0, al_1, al_2, al_4, al_5, al_98, bsP_2, bsP_3, wr_same, wr_wr, wr_ne, up_same, up_ne, Nat.reduceAdd, Int.reduceAdd, Int.reduceSub, Int.reduceMul, Int.reduceLT, Int.reduceLE, Int.reduceEq, Int.reduceNeg, Int.reduceToNat, Nat.reduceLT, Nat.reduceLeDiff, Nat.reduceEqDiff, ↓reduceIte, true_and, and_true, not_true_eq_false, not_false_eq_true, eq_self, or_true, true_or, or_false, false_or, if_true, if_false, Int.toNat_natCast, w_ite, Nat.add_zero, reduceCtorEq, ne_eq, hS.1, h7, hI.2.1, s78]
  · rw [if_neg c]
    simp (disch := omega) only [q_77_0, q_77_1, q_77_4, q_77_5, q_77_8, q_77_11, q_77_12, q_77_13, q_77_16, q_77_19, q_77_22, q_77_23, q_77_e, va_rf_s, bz_0, bz_1, bz_ok, bb_ok, Nat.add_assoc, w_lt, w_add, w_sub, w_mul, w_div, em_def, w_eq, w_inT, ↓ilt_t, ↓ilt_f, ↓ieq_t, ↓ieq_f, ntT, w_b, w_ix, kx_v, kx_n, kl_n, kl_i, kl_r, kl_o, inA_i, inA_s, inA_b, inA_z, inA_l, inA_0, inA_4, inA_5, inA_6, inA_7, inA_8, inA_9, inA_10, al_0, al_1, al_2, al_4, al_5, al_98, bsP_2, bsP_3, wr_same, wr_wr, wr_ne, up_same, up_ne, Nat.reduceAdd, Int.reduceAdd, Int.reduceSub, Int.reduceMul, Int.reduceLT, Int.reduceLE, Int.reduceEq, Int.reduceNeg, Int.reduceToNat, Nat.reduceLT, Nat.reduceLeDiff, Nat.reduceEqDiff, ↓reduceIte, true_and, and_true, not_true_eq_false, not_false_eq_true, eq_self, or_true, true_or, or_false, false_or, if_true, if_false, Int.toNat_natCast, w_ite, Nat.add_zero, reduceCtorEq, ne_eq, hS.1, h7, hI.2.1]
theorem bt_bd {p : Nat} (h : ∀ c ∈ t, 0 ≤ c ∧ c < 256) : -1 ≤ bt t p ∧ bt t p < 256 := by
  unfold bt
  split
  · rename_i hp
    have := h (t.getD p 0) (by rw [List.getD_eq_getElem?_getD, List.getElem?_eq_getElem hp]; exact List.getElem_mem hp)
    omega
  · omega
theorem sp_76 {p : Nat} (hS : RdS S R tr b) (hI : RdI I tr b t) (h7 : I tr 7 = w p) (hp : p ≤ t.length)
    (hQ : ∀ I' : MI, (∀ a, a ≠ tr → I' a = I a) → (∀ j, j ≠ 7 → I' tr j = I tr j) → I' tr 7 = w (skb t p) → Q (.inl none) (mk S I' L R G)) :
    XC d 76 [.ref tr] (mk S I L R G) Q := by
  obtain ⟨g0, g1, g3, g4, g5, g6, r5, gb, hb⟩ := id hS
  have h400 := hI.2.2.1
  have lp : ∀ (j q : Nat) (I1 : MI), q + j = t.length → (∀ a, a ≠ tr → I1 a = I a) → (∀ j, j ≠ 7 → I1 tr j = I tr j) → I1 tr 7 = w q → skb t q = skb t p → XX d 76 0 [some (.ref tr)] [] (mk S I1 L R G) Q := by
    intro j
    induction j with
    | zero =>
      intro q I1 hq h1 h2 h3 h4
      have e : q = skb t p := by rw [← h4]; exact (run_e (Or.inl (by omega))).symm
      have e6 : I1 tr 6 = w t.length := by rw [h2 6 (by decide)]; exact hI.2.1
      have := hQ I1 h1 h2 (by rw [h3, e])
      rw [q_76_0]
      simp (disch := omega) only [q_76_1, q_76_4, q_76_7, q_76_8, q_76_11, q_76_12, q_76_15, q_76_18, q_76_19, q_76_22, q_76_23, q_76_26, q_76_27, q_76_30, q_76_31, q_76_34, q_76_35, q_76_38, q_76_39, q_76_41, q_76_44, q_76_45, q_76_46, q_76_49, q_76_50, q_76_51, q_76_54, q_76_57, q_76_e, va_rf_s, bz_0, bz_1, bz_ok, bb_ok, Nat.add_assoc, w_lt, w_add, w_sub, w_mul, w_div, em_def, w_eq, w_inT, ↓ilt_t, ↓ilt_f, ↓ieq_t, ↓ieq_f, ntT, w_b, w_ix, kx_v, kx_n, kl_n, kl_i, kl_r, kl_o, inA_i, inA_s, inA_b, inA_z, inA_l, inA_0, inA_4, inA_5, inA_6, inA_7, inA_8, inA_9, inA_10, al_0, al_1, al_2, al_4, al_5, al_98, bsP_2, bsP_3, wr_same, wr_wr, wr_ne, up_same, up_ne, Nat.reduceAdd, Int.reduceAdd, Int.reduceSub, Int.reduceMul, Int.reduceLT, Int.reduceLE, Int.reduceEq, Int.reduceNeg, Int.reduceToNat, Nat.reduceLT, Nat.reduceLeDiff, Nat.reduceEqDiff, ↓reduceIte, true_and, and_true, not_true_eq_false, not_false_eq_true, eq_self, or_true, true_or, or_false, false_or, if_true, if_false, Int.toNat_natCast, w_ite, Nat.add_zero, reduceCtorEq, ne_eq, g0, h3, e6]
      exact this
    | succ j ih =>
      intro q I1 hq h1 h2 h3 h4
      have hI1 : RdI I1 tr b t := hI.keep (h1 b (by omega)) (h2 6 (by decide))
      obtain ⟨e1, e2, e3, e4⟩ := hI1.get (show q < t.length by omega)
      have e6 := hI1.2.1
      have hsb := sb_bd e2 e3
      have h32 := sb_32 e2 e3
      by_cases c : t.getD q 0 = 32
      · have := ih (q + 1) (wr I1 tr (up (I1 tr) 7 (w (q + 1 : Nat)))) (by omega) (fun a ha => by rw [wr_ne ha]; exact h1 a ha) (fun j hj => by rw [wr_same, up_ne hj]; exact h2 j hj) (by rw [wr_same, up_same]) (by rw [← h4]; exact (run_s (by omega) (by unfold isb; rw [c]; rfl)).symm)
        simp only [Int.natCast_add, Int.natCast_one] at this
        rw [h32.mpr c] at e1
        rw [q_76_0]
        simp (disch := omega) only [q_76_1, q_76_4, q_76_7, q_76_8, q_76_11, q_76_12, q_76_15, q_76_18, q_76_19, q_76_22, q_76_23, q_76_26, q_76_27, q_76_30, q_76_31, q_76_34, q_76_35, q_76_38, q_76_39, q_76_41, q_76_44, q_76_45, q_76_46, q_76_49, q_76_50, q_76_51, q_76_54, q_76_57, q_76_e, va_rf_s, bz_0, bz_1, bz_ok, bb_ok, Nat.add_assoc, w_lt, w_add, w_sub, w_mul, w_div, em_def, w_eq, w_inT, ↓ilt_t, ↓ilt_f, ↓ieq_t, ↓ieq_f, ntT, w_b, w_ix, kx_v, kx_n, kl_n, kl_i, kl_r, kl_o, inA_i, inA_s, inA_b, inA_z, inA_l, inA_0, inA_4, inA_5, inA_6, inA_7, inA_8, inA_9, inA_10, al_0, al_1, al_2, al_4, al_5, al_98, bsP_2, bsP_3, wr_same, wr_wr, wr_ne, up_same, up_ne, Nat.reduceAdd, Int.reduceAdd, Int.reduceSub, Int.reduceMul, Int.reduceLT, Int.reduceLE, Int.reduceEq, Int.reduceNeg, Int.reduceToNat, Nat.reduceLT, Nat.reduceLeDiff, Nat.reduceEqDiff, ↓reduceIte, true_and, and_true, not_true_eq_false, not_false_eq_true, eq_self, or_true, true_or, or_false, false_or, if_true, if_false, Int.toNat_natCast, w_ite, Nat.add_zero, reduceCtorEq, ne_eq, g0, h3, e6, r5, gb, e1]
        exact this
      · have c' : sb (t.getD q 0) ≠ 32 := fun h => c (h32.mp h)
        have e : q = skb t p := by rw [← h4]; exact (run_e (Or.inr (by unfold isb; exact decide_eq_false c))).symm
        have := hQ I1 h1 h2 (by rw [h3, e])
        rw [q_76_0]
        simp (disch := omega) only [q_76_1, q_76_4, q_76_7, q_76_8, q_76_11, q_76_12, q_76_15, q_76_18, q_76_19, q_76_22, q_76_23, q_76_26, q_76_27, q_76_30, q_76_31, q_76_34, q_76_35, q_76_38, q_76_39, q_76_41, q_76_44, q_76_45, q_76_46, q_76_49, q_76_50, q_76_51, q_76_54, q_76_57, q_76_e, va_rf_s, bz_0, bz_1, bz_ok, bb_ok, Nat.add_assoc, w_lt, w_add, w_sub, w_mul, w_div, em_def, w_eq, w_inT, ↓ilt_t, ↓ilt_f, ↓ieq_t, ↓ieq_f, ntT, w_b, w_ix, kx_v, kx_n, kl_n, kl_i, kl_r, kl_o, inA_i, inA_s, inA_b, inA_z, inA_l, inA_0, inA_4, inA_5, inA_6, inA_7, inA_8, inA_9, inA_10, al_0, al_1, al_2, al_4, al_5, al_98, bsP_2, bsP_3, wr_same, wr_wr, wr_ne, up_same, up_ne, Nat.reduceAdd, Int.reduceAdd, Int.reduceSub, Int.reduceMul, Int.reduceLT, Int.reduceLE, Int.reduceEq, Int.reduceNeg, Int.reduceToNat, Nat.reduceLT, Nat.reduceLeDiff, Nat.reduceEqDiff, ↓reduceIte, true_and, and_true, not_true_eq_false, not_false_eq_true, eq_self, or_true, true_or, or_false, false_or, if_true, if_false, Int.toNat_natCast, w_ite, Nat.add_zero, reduceCtorEq, ne_eq, g0, h3, e6, r5, gb, e1]
        exact this
  exact lp (t.length - p) p I (by omega) (fun _ _ => rfl) (fun _ _ => rfl) h7 rfl
theorem sp_75 {p : Nat} (hS : RdS S R tr b) (hI : RdI I tr b t) (h7 : I tr 7 = w p) (hp : p ≤ t.length) : XC (d + 1) 75 [.ref tr] (mk S I L R G) Q ↔ Q (.inl (some (.int (w (wde t p))))) (mk S I L R G) := by
  have h400 := hI.2.2.1
  have lp : ∀ (j q : Nat), q + j = t.length → (XX (d + 1) 75 5 [some (.ref tr), some (.int (w q))] [] (mk S I L R G) Q ↔ Q (.inl (some (.int (w (wde t q))))) (mk S I L R G)) := by
    intro j
    induction j with
    | zero =>
      intro q hq
      have e : wde t q = q := run_e (Or.inl (by omega))
      rw [e, q_75_5]
      simp (disch := omega) only [q_75_0, q_75_1, q_75_4, q_75_6, q_75_7, q_75_10, q_75_13, q_75_14, q_75_15, q_75_18, q_75_21, q_75_24, q_75_27, q_75_30, q_75_31, q_75_e, va_rf_s, bz_0, bz_1, bz_ok, bb_ok, Nat.add_assoc, w_lt, w_add, w_sub, w_mul, w_div, em_def, w_eq, w_inT, ↓ilt_t, ↓ilt_f, ↓ieq_t, ↓ieq_f, ntT, w_b, w_ix, kx_v, kx_n, kl_n, kl_i, kl_r, kl_o, inA_i, inA_s, inA_b, inA_z, inA_l, inA_0, inA_4, inA_5, inA_6, inA_7, inA_8, inA_9, inA_10, al_0, al_1, al_2, al_4, al_5, al_98, bsP_2, bsP_3, wr_same, wr_wr, wr_ne, up_same, up_ne, Nat.reduceAdd, Int.reduceAdd, Int.reduceSub, Int.reduceMul, Int.reduceLT, Int.reduceLE, Int.reduceEq, Int.reduceNeg, Int.reduceToNat, Nat.reduceLT, Nat.reduceLeDiff, Nat.reduceEqDiff, ↓reduceIte, true_and, and_true, not_true_eq_false, not_false_eq_true, eq_self, or_true, true_or, or_false, false_or, if_true, if_false, Int.toNat_natCast, w_ite, Nat.add_zero, reduceCtorEq, ne_eq, hS.1, hI.2.1]
    | succ j ih =>
      intro q hq
      have hql : q < t.length := by omega
      obtain ⟨e1, e2, e3, e4⟩ := hI.get hql
      have s78 := fun {d : Nat} {Q : XO → Hp → Prop} => sp_78 (d := d) (Q := Q) (L := L) (G := G) hS hI hql
      have s148 := fun {d : Nat} {Q : XO → Hp → Prop} {A : Hp} => sp_148 (d := d) (Q := Q) (A := A) (x := t.getD q 0) (by omega) (by omega)
      rw [q_75_5]
      cases c : isl (t.getD q 0) with
      | true =>
        have e : wde t q = wde t (q + 1) := run_s hql c
        have := ih (q + 1) (by omega)
        simp only [Int.natCast_add, Int.natCast_one] at this
        rw [c] at s148
        rw [e]
        simp (disch := omega) only [q_75_0, q_75_1, q_75_4, q_75_6, q_75_7, q_75_10, q_75_13, q_75_14, q_75_15, q_75_18, q_75_21, q_75_24, q_75_27, q_75_30, q_75_31, q_75_e, va_rf_s, bz_0, bz_1, bz_ok, bb_ok, Nat.add_assoc, w_lt, w_add, w_sub, w_mul, w_div, em_def, w_eq, w_inT, ↓ilt_t, ↓ilt_f, ↓ieq_t, ↓ieq_f, ntT, w_b, w_ix, kx_v, kx_n, kl_n, kl_i, kl_r, kl_o, inA_i, inA_s, inA_b, inA_z, inA_l, inA_0, inA_4, inA_5, inA_6, inA_7, inA_8, inA_9, inA_10, al_0, al_1, al_2, al_4, al_5, al_98, bsP_2, bsP_3, wr_same, wr_wr, wr_ne, up_same, up_ne, Nat.reduceAdd, Int.reduceAdd, Int.reduceSub, Int.reduceMul, Int.reduceLT, Int.reduceLE, Int.reduceEq, Int.reduceNeg, Int.reduceToNat, Nat.reduceLT, Nat.reduceLeDiff, Nat.reduceEqDiff, ↓reduceIte, true_and, and_true, not_true_eq_false, not_false_eq_true, eq_self, or_true, true_or, or_false, false_or, if_true, if_false, Int.toNat_natCast, w_ite, Nat.add_zero, reduceCtorEq, ne_eq, hS.1, hI.2.1, s78, s148, bz_t]
        exact this
      | false =>
        have e : wde t q = q := run_e (Or.inr c)
        rw [c] at s148
        rw [e]
        simp (disch := omega) only [q_75_0, q_75_1, q_75_4, q_75_6, q_75_7, q_75_10, q_75_13, q_75_14, q_75_15, q_75_18, q_75_21, q_75_24, q_75_27, q_75_30, q_75_31, q_75_e, va_rf_s, bz_0, bz_1, bz_ok, bb_ok, Nat.add_assoc, w_lt, w_add, w_sub, w_mul, w_div, em_def, w_eq, w_inT, ↓ilt_t, ↓ilt_f, ↓ieq_t, ↓ieq_f, ntT, w_b, w_ix, kx_v, kx_n, kl_n, kl_i, kl_r, kl_o, inA_i, inA_s, inA_b, inA_z, inA_l, inA_0, inA_4, inA_5, inA_6, inA_7, inA_8, inA_9, inA_10, al_0, al_1, al_2, al_4, al_5, al_98, bsP_2, bsP_3, wr_same, wr_wr, wr_ne, up_same, up_ne, Nat.reduceAdd, Int.reduceAdd, Int.reduceSub, Int.reduceMul, Int.reduceLT, Int.reduceLE, Int.reduceEq, Int.reduceNeg, Int.reduceToNat, Nat.reduceLT, Nat.reduceLeDiff, Nat.reduceEqDiff, ↓reduceIte, true_and, and_true, not_true_eq_false, not_false_eq_true, eq_self, or_true, true_or, or_false, false_or, if_true, if_false, Int.toNat_natCast, w_ite, Nat.add_zero, reduceCtorEq, ne_eq, hS.1, hI.2.1, s78, s148, bz_f]
  have := lp (t.length - p) p (by omega)
  simp (disch := omega) only [q_75_0, q_75_1, q_75_4, q_75_6, q_75_7, q_75_10, q_75_13, q_75_14, q_75_15, q_75_18, q_75_21, q_75_24, q_75_27, q_75_30, q_75_31, q_75_e, va_rf_s, bz_0, bz_1, bz_ok, bb_ok, Nat.add_assoc, w_lt, w_add, w_sub, w_mul, w_div, em_def, w_eq, w_inT, ↓ilt_t, ↓ilt_f, ↓ieq_t, ↓ieq_f, ntT, w_b, w_ix, kx_v, kx_n, kl_n, kl_i, kl_r, kl_o, inA_i, inA_s, inA_b, inA_z, inA_l, inA_0, inA_4, inA_5, inA_6, inA_7, inA_8, inA_9, inA_10, al_0, al_1, al_2, al_4, al_5, al_98, bsP_2, bsP_3, wr_same, wr_wr, wr_ne, up_same, up_ne, Nat.reduceAdd, Int.reduceAdd, Int.reduceSub, Int.reduceMul, Int.reduceLT, Int.reduceLE, Int.reduceEq, Int.reduceNeg, Int.reduceToNat, Nat.reduceLT, Nat.reduceLeDiff, Nat.reduceEqDiff, ↓reduceIte, true_and, and_true, not_true_eq_false, not_false_eq_true, eq_self, or_true, true_or, or_false, false_or, if_true, if_false, Int.toNat_natCast, w_ite, Nat.add_zero, reduceCtorEq, ne_eq, hS.1, h7]
  exact this
end

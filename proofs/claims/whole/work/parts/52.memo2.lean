/-! what the memo has, read; voices compared; learning -/
def nlet : List Int → Int
  | [] => 0
  | b :: r => (if b = 32 then 0 else 1) + nlet r
def lsum : List Int → Int
  | [] => 0
  | b :: r => b + lsum r
theorem nlet_bd : ∀ t, 0 ≤ nlet t ∧ nlet t ≤ t.length
  | [] => ⟨by decide, by decide⟩
  | b :: r => by
    have := nlet_bd r
    unfold nlet
    rw [List.length_cons]
    split <;> omega
theorem lsum_bd : ∀ t, bOk t → 0 ≤ lsum t ∧ lsum t ≤ 122 * t.length
  | [], _ => ⟨by decide, by decide⟩
  | b :: r, h => by
    have := lsum_bd r (fun x hx => h x (List.mem_cons_of_mem _ hx))
    have hb := h b (List.mem_cons_self ..)
    unfold lsum
    rw [List.length_cons]
    omega
theorem nlet_app : ∀ s t, nlet (s ++ t) = nlet s + nlet t
  | [], t => by simp [nlet]
  | b :: s, t => by
    show (if b = 32 then 0 else 1) + nlet (s ++ t) = (if b = 32 then 0 else 1) + nlet s + nlet t
    rw [nlet_app s t]; omega
theorem lsum_app : ∀ s t, lsum (s ++ t) = lsum s + lsum t
  | [], t => by simp [lsum]
  | b :: s, t => by
    show b + lsum (s ++ t) = b + lsum s + lsum t
    rw [lsum_app s t]; omega
theorem bOk.drop {t : List Int} (h : bOk t) (k : Nat) : bOk (t.drop k) := fun b hb => h b (List.mem_of_mem_drop hb)
theorem bOk.get {t : List Int} (h : bOk t) {k : Nat} (hk : k < t.length) : t.getD k 0 = 32 ∨ (97 ≤ t.getD k 0 ∧ t.getD k 0 ≤ 122) := by
  rw [List.getD_eq_getElem?_getD, List.getElem?_eq_getElem hk]; exact h _ (List.getElem_mem hk)
theorem lexc_bd : ∀ s t : List Int, -(256 + (t.length : Int)) ≤ lexc s t ∧ lexc s t ≤ 256 + s.length
  | [], t => by unfold lexc; rw [List.length_nil]; omega
  | x :: s, [] => by unfold lexc; rw [List.length_cons, List.length_nil]; omega
  | x :: s, y :: t => by
    have := lexc_bd s t
    unfold lexc
    rw [List.length_cons, List.length_cons]
    split <;> omega
/-- the memo has it said so -/
def Sd (I : MI) (v : Nat) (n : Int) (t : List Int) : Prop := Kn I v n ∧ gi I (v + 4) (sl n) = t.length ∧ t.length ≤ 100 ∧ Txt (I (v + 2)) (sl n * 100) t ∧ bOk t
theorem Kn.Sd {rs : List Rl} {I : MI} {v : Nat} {n : Int} {t : List Int} (hM : MInv rs I v) (hr : rsOk rs) (h : Kn I v n) (h0 : 0 ≤ n) (hs : T rs n = some t) : Sd I v n t := by
  have hok := T_ok hr hs
  unfold T at hs
  obtain ⟨⟨t', a⟩, h1, rfl⟩ := Option.map_eq_some_iff.mp hs
  obtain ⟨k1, k2, k3, k4, k5, k6, -⟩ := Kn.said hM h h0 h1
  exact ⟨h, k2, k6, k4, hok.1⟩
section
variable {d : Nat} {Q : XO → Hp → Prop} {S : SH} {I : MI} {L : ML} {R : MR} {G : MG} {A : Hp}
variable {v : Nat} {n : Int} {t : List Int}
theorem sp_32t (h : MemoS S (v + 1)) (n1 : -2147483648 ≤ n) (n2 : n < 2147483648) (hs : Sd I v n t) : XC (d + 1) 32 [.ref (v + 1), .int (w n)] (mk S I L R G) Q ↔ Q (.inl (some (.int (w t.length)))) (mk S I L R G) := by
  obtain ⟨k1, k2, k3, k4, k5⟩ := hs
  have := sp_32 (d := d) (Q := Q) (L := L) (R := R) (G := G) h n1 n2 k1 (by rw [show v + 1 + 3 = v + 4 from rfl, k2]; omega) (by rw [show v + 1 + 3 = v + 4 from rfl, k2]; omega)
  rw [show v + 1 + 3 = v + 4 from rfl, k2] at this
  exact this
theorem sp_36 (h : MemoS S (v + 1)) (n1 : -2147483648 ≤ n) (n2 : n < 2147483648) (hs : Sd I v n t) {k : Int} (k1 : -2147483648 ≤ k) (k2 : k < 2147483648) : XC (d + 2) 36 [.ref (v + 1), .int (w n), .int (w k)] (mk S I L R G) Q ↔ Q (.inl (some (.int (w (if 0 ≤ k ∧ k < t.length then t.getD k.toNat 0 else -1))))) (mk S I L R G) := by
  have s32 := fun {d : Nat} {Q : XO → Hp → Prop} => sp_32t (d := d) (Q := Q) (L := L) (R := R) (G := G) h n1 n2 hs
  have s31 := fun {d : Nat} {Q : XO → Hp → Prop} => sp_31 (d := d) (Q := Q) (I := I) (L := L) (R := R) (G := G) h n1 n2
  obtain ⟨-, -, k3, k4, k5⟩ := hs
  obtain ⟨m0, m1, -⟩ := h
  simp only [Nat.add_assoc, Nat.reduceAdd] at m1
  have hb := slot_bd n
  have hl := sl_bd n
  have hc := sl_c n
  simp (disch := omega) only [q_36_0, q_36_1, q_36_4, q_36_5, q_36_6, q_36_7, q_36_10, q_36_13, q_36_14, q_36_17, q_36_18, q_36_19, q_36_22, q_36_24, q_36_25, q_36_28, q_36_29, q_36_e, va_rf_s, bz_0, bz_1, bz_ok, bb_ok, Nat.add_assoc, w_lt, w_add, w_sub, w_mul, w_div, em_def, w_eq, w_inT, ↓ilt_t, ↓ilt_f, ↓ieq_t, ↓ieq_f, ntT, w_b, w_ix, kx_v, kx_n, kl_n, kl_i, kl_r, kl_o, inA_i, inA_s, inA_b, inA_z, inA_l, inA_0, inA_4, inA_5, inA_6, inA_7, inA_8, inA_9, inA_10, al_0, al_1, al_2, al_4, al_5, al_98, bsP_2, bsP_3, wr_same, wr_wr, wr_ne, up_same, up_ne, Nat.reduceAdd, Int.reduceAdd, Int.reduceSub, Int.reduceMul, Int.reduceLT, Int.reduceLE, Int.reduceEq, Int.reduceNeg, Int.reduceToNat, Nat.reduceLT, Nat.reduceLeDiff, Nat.reduceEqDiff, ↓reduceIte, true_and, and_true, not_true_eq_false, not_false_eq_true, eq_self, or_true, true_or, or_false, false_or, if_true, if_false, Int.toNat_natCast, w_ite, Nat.add_zero, reduceCtorEq, ne_eq, s32, m0]
  by_cases c1 : k < 0
  · rw [if_pos c1, if_neg (by omega)]
  · rw [if_neg c1]
    by_cases c2 : k < t.length
    · rw [if_pos c2, if_pos (by omega)]
      have e : (slot n * 100 + k).toNat = sl n * 100 + k.toNat := by omega
      simp (disch := omega) only [q_36_0, q_36_1, q_36_4, q_36_5, q_36_6, q_36_7, q_36_10, q_36_13, q_36_14, q_36_17, q_36_18, q_36_19, q_36_22, q_36_23, q_36_24, q_36_25, q_36_28, q_36_29, q_36_e, va_rf_s, bz_0, bz_1, bz_ok, bb_ok, Nat.add_assoc, w_lt, w_add, w_sub, w_mul, w_div, em_def, w_eq, w_inT, ↓ilt_t, ↓ilt_f, ↓ieq_t, ↓ieq_f, ntT, w_b, w_ix, kx_v, kx_n, kl_n, kl_i, kl_r, kl_o, inA_i, inA_s, inA_b, inA_z, inA_l, inA_0, inA_4, inA_5, inA_6, inA_7, inA_8, inA_9, inA_10, al_0, al_1, al_2, al_4, al_5, al_98, bsP_2, bsP_3, wr_same, wr_wr, wr_ne, up_same, up_ne, Nat.reduceAdd, Int.reduceAdd, Int.reduceSub, Int.reduceMul, Int.reduceLT, Int.reduceLE, Int.reduceEq, Int.reduceNeg, Int.reduceToNat, Nat.reduceLT, Nat.reduceLeDiff, Nat.reduceEqDiff, ↓reduceIte, true_and, and_true, not_true_eq_false, not_false_eq_true, eq_self, or_true, true_or, or_false, false_or, if_true, if_false, Int.toNat_natCast, w_ite, Nat.add_zero, reduceCtorEq, ne_eq, s31, m0, m1, e, k4 k.toNat (by omega)]
    · rw [if_neg c2, if_neg (by omega)]
theorem sp_38 (h : MemoS S (v + 1)) (n1 : -2147483648 ≤ n) (n2 : n < 2147483648) (hs : Sd I v n t) : XC (d + 2) 38 [.ref (v + 1), .int (w n)] (mk S I L R G) Q ↔ Q (.inl (some (.int (w (nlet t))))) (mk S I L R G) := by
  have s32 := fun {d : Nat} {Q : XO → Hp → Prop} => sp_32t (d := d) (Q := Q) (L := L) (R := R) (G := G) h n1 n2 hs
  have s31 := fun {d : Nat} {Q : XO → Hp → Prop} => sp_31 (d := d) (Q := Q) (I := I) (L := L) (R := R) (G := G) h n1 n2
  obtain ⟨-, -, k3, k4, k5⟩ := hs
  obtain ⟨m0, m1, -⟩ := h
  simp only [Nat.add_assoc, Nat.reduceAdd] at m1
  have hb := slot_bd n
  have hl := sl_bd n
  have hc := sl_c n
  have lp : ∀ (j k : Nat) (a : Int), k + j = t.length → 0 ≤ a → a ≤ k → (XX (d + 2) 38 20 [some (.ref (v + 1)), some (.int (w n)), some (.int (w (slot n * 100))), some (.int (w (slot n * 100 + t.length))), some (.int (w a)), some (.int (w (slot n * 100 + k)))] [] (mk S I L R G) Q ↔ Q (.inl (some (.int (w (a + nlet (t.drop k)))))) (mk S I L R G)) := by
    intro j
    induction j with
    | zero =>
      intro k a hk h0 h1
      rw [q_38_20, List.drop_eq_nil_of_le (by omega)]
      simp (disch := omega) only [q_38_0, q_38_1, q_38_2, q_38_5, q_38_6, q_38_7, q_38_8, q_38_9, q_38_12, q_38_13, q_38_14, q_38_15, q_38_17, q_38_18, q_38_22, q_38_23, q_38_26, q_38_27, q_38_30, q_38_32, q_38_33, q_38_35, q_38_38, q_38_41, q_38_44, q_38_47, q_38_49, q_38_e, va_rf_s, bz_0, bz_1, bz_ok, bb_ok, Nat.add_assoc, w_lt, w_add, w_sub, w_mul, w_div, em_def, w_eq, w_inT, ↓ilt_t, ↓ilt_f, ↓ieq_t, ↓ieq_f, ntT, w_b, w_ix, kx_v, kx_n, kl_n, kl_i, kl_r, kl_o, inA_i, inA_s, inA_b, inA_z, inA_l, inA_0, inA_4, inA_5, inA_6, inA_7, inA_8, inA_9, inA_10, al_0, al_1, al_2, al_4, al_5, al_98, bsP_2, bsP_3, wr_same, wr_wr, wr_ne, up_same, up_ne, Nat.reduceAdd, Int.reduceAdd, Int.reduceSub, Int.reduceMul, Int.reduceLT, Int.reduceLE, Int.reduceEq, Int.reduceNeg, Int.reduceToNat, Nat.reduceLT, Nat.reduceLeDiff, Nat.reduceEqDiff, ↓reduceIte, true_and, and_true, not_true_eq_false, not_false_eq_true, eq_self, or_true, true_or, or_false, false_or, if_true, if_false, Int.toNat_natCast, w_ite, Nat.add_zero, reduceCtorEq, ne_eq, nlet, Int.add_zero]
    | succ j ih =>
      intro k a hk h0 h1
      have e : (slot n * 100 + (k : Int)).toNat = sl n * 100 + k := by omega
      have hg := k5.get (show k < t.length by omega)
      have e2 := k4 k (by omega)
      rw [q_38_20, drop_cons (by omega : k < t.length)]
      unfold nlet
      simp (disch := omega) only [q_38_0, q_38_1, q_38_2, q_38_5, q_38_6, q_38_7, q_38_8, q_38_9, q_38_12, q_38_13, q_38_14, q_38_15, q_38_17, q_38_18, q_38_22, q_38_23, q_38_26, q_38_27, q_38_30, q_38_32, q_38_33, q_38_35, q_38_38, q_38_41, q_38_44, q_38_47, q_38_49, q_38_e, va_rf_s, bz_0, bz_1, bz_ok, bb_ok, Nat.add_assoc, w_lt, w_add, w_sub, w_mul, w_div, em_def, w_eq, w_inT, ↓ilt_t, ↓ilt_f, ↓ieq_t, ↓ieq_f, ntT, w_b, w_ix, kx_v, kx_n, kl_n, kl_i, kl_r, kl_o, inA_i, inA_s, inA_b, inA_z, inA_l, inA_0, inA_4, inA_5, inA_6, inA_7, inA_8, inA_9, inA_10, al_0, al_1, al_2, al_4, al_5, al_98, bsP_2, bsP_3, wr_same, wr_wr, wr_ne, up_same, up_ne, Nat.reduceAdd, Int.reduceAdd, Int.reduceSub, Int.reduceMul, Int.reduceLT, Int.reduceLE, Int.reduceEq, Int.reduceNeg, Int.reduceToNat, Nat.reduceLT, Nat.reduceLeDiff, Nat.reduceEqDiff, ↓reduceIte, true_and, and_true, not_true_eq_false, not_false_eq_true, eq_self, or_true, true_or, or_false, false_or, if_true, if_false, Int.toNat_natCast, w_ite, Nat.add_zero, reduceCtorEq, ne_eq, m0, m1, e, e2]
      have i1 := ih (k + 1) a (by omega) h0 (by omega)
      have i2 := ih (k + 1) (a + 1) (by omega) (by omega) (by omega)
      simp only [Int.natCast_add, Int.natCast_one, ← Int.add_assoc] at i1 i2
      split
      · rw [i1, Int.zero_add]
      · rw [i2, Int.add_assoc]
  have := lp t.length 0 0 (by omega) (by omega) (by omega)
  simp only [Int.natCast_zero, List.drop_zero, Int.zero_add, Int.add_zero] at this
  simp (disch := omega) only [q_38_0, q_38_1, q_38_2, q_38_5, q_38_6, q_38_7, q_38_8, q_38_9, q_38_12, q_38_13, q_38_14, q_38_15, q_38_17, q_38_18, q_38_22, q_38_23, q_38_26, q_38_27, q_38_30, q_38_32, q_38_33, q_38_35, q_38_38, q_38_41, q_38_44, q_38_47, q_38_49, q_38_e, va_rf_s, bz_0, bz_1, bz_ok, bb_ok, Nat.add_assoc, w_lt, w_add, w_sub, w_mul, w_div, em_def, w_eq, w_inT, ↓ilt_t, ↓ilt_f, ↓ieq_t, ↓ieq_f, ntT, w_b, w_ix, kx_v, kx_n, kl_n, kl_i, kl_r, kl_o, inA_i, inA_s, inA_b, inA_z, inA_l, inA_0, inA_4, inA_5, inA_6, inA_7, inA_8, inA_9, inA_10, al_0, al_1, al_2, al_4, al_5, al_98, bsP_2, bsP_3, wr_same, wr_wr, wr_ne, up_same, up_ne, Nat.reduceAdd, Int.reduceAdd, Int.reduceSub, Int.reduceMul, Int.reduceLT, Int.reduceLE, Int.reduceEq, Int.reduceNeg, Int.reduceToNat, Nat.reduceLT, Nat.reduceLeDiff, Nat.reduceEqDiff, ↓reduceIte, true_and, and_true, not_true_eq_false, not_false_eq_true, eq_self, or_true, true_or, or_false, false_or, if_true, if_false, Int.toNat_natCast, w_ite, Nat.add_zero, reduceCtorEq, ne_eq, s31, s32, m0]
  exact this
theorem sp_39 (h : MemoS S (v + 1)) (n1 : -2147483648 ≤ n) (n2 : n < 2147483648) (hs : Sd I v n t) : XC (d + 2) 39 [.ref (v + 1), .int (w n)] (mk S I L R G) Q ↔ Q (.inl (some (.int (w (lsum t))))) (mk S I L R G) := by
  have s32 := fun {d : Nat} {Q : XO → Hp → Prop} => sp_32t (d := d) (Q := Q) (L := L) (R := R) (G := G) h n1 n2 hs
  have s31 := fun {d : Nat} {Q : XO → Hp → Prop} => sp_31 (d := d) (Q := Q) (I := I) (L := L) (R := R) (G := G) h n1 n2
  obtain ⟨-, -, k3, k4, k5⟩ := hs
  obtain ⟨m0, m1, -⟩ := h
  simp only [Nat.add_assoc, Nat.reduceAdd] at m1
  have hb := slot_bd n
  have hl := sl_bd n
  have hc := sl_c n
  have lp : ∀ (j k : Nat) (a : Int), k + j = t.length → (XX (d + 2) 39 20 [some (.ref (v + 1)), some (.int (w n)), some (.int (w (slot n * 100))), some (.int (w (slot n * 100 + t.length))), some (.int (w a)), some (.int (w (slot n * 100 + k)))] [] (mk S I L R G) Q ↔ Q (.inl (some (.int (w (a + lsum (t.drop k)))))) (mk S I L R G)) := by
    intro j
    induction j with
    | zero =>
      intro k a hk
      rw [q_39_20, List.drop_eq_nil_of_le (by omega)]
      simp (disch := omega) only [q_39_0, q_39_1, q_39_2, q_39_5, q_39_6, q_39_7, q_39_8, q_39_9, q_39_12, q_39_13, q_39_14, q_39_15, q_39_17, q_39_18, q_39_22, q_39_23, q_39_26, q_39_28, q_39_29, q_39_32, q_39_34, q_39_35, q_39_36, q_39_38, q_39_41, q_39_44, q_39_46, q_39_e, va_rf_s, bz_0, bz_1, bz_ok, bb_ok, Nat.add_assoc, w_lt, w_add, w_sub, w_mul, w_div, em_def, w_eq, w_inT, ↓ilt_t, ↓ilt_f, ↓ieq_t, ↓ieq_f, ntT, w_b, w_ix, kx_v, kx_n, kl_n, kl_i, kl_r, kl_o, inA_i, inA_s, inA_b, inA_z, inA_l, inA_0, inA_4, inA_5, inA_6, inA_7, inA_8, inA_9, inA_10, al_0, al_1, al_2, al_4, al_5, al_98, bsP_2, bsP_3, wr_same, wr_wr, wr_ne, up_same, up_ne, Nat.reduceAdd, Int.reduceAdd, Int.reduceSub, Int.reduceMul, Int.reduceLT, Int.reduceLE, Int.reduceEq, Int.reduceNeg, Int.reduceToNat, Nat.reduceLT, Nat.reduceLeDiff, Nat.reduceEqDiff, ↓reduceIte, true_and, and_true, not_true_eq_false, not_false_eq_true, eq_self, or_true, true_or, or_false, false_or, if_true, if_false, Int.toNat_natCast, w_ite, Nat.add_zero, reduceCtorEq, ne_eq, lsum, Int.add_zero]
    | succ j ih =>
      intro k a hk
      have e : (slot n * 100 + (k : Int)).toNat = sl n * 100 + k := by omega
      have e2 := k4 k (by omega)
      rw [q_39_20, drop_cons (by omega : k < t.length)]
      unfold lsum
      simp (disch := omega) only [q_39_0, q_39_1, q_39_2, q_39_5, q_39_6, q_39_7, q_39_8, q_39_9, q_39_12, q_39_13, q_39_14, q_39_15, q_39_17, q_39_18, q_39_22, q_39_23, q_39_26, q_39_28, q_39_29, q_39_32, q_39_34, q_39_35, q_39_36, q_39_38, q_39_41, q_39_44, q_39_46, q_39_e, va_rf_s, bz_0, bz_1, bz_ok, bb_ok, Nat.add_assoc, w_lt, w_add, w_sub, w_mul, w_div, em_def, w_eq, w_inT, ↓ilt_t, ↓ilt_f, ↓ieq_t, ↓ieq_f, ntT, w_b, w_ix, kx_v, kx_n, kl_n, kl_i, kl_r, kl_o, inA_i, inA_s, inA_b, inA_z, inA_l, inA_0, inA_4, inA_5, inA_6, inA_7, inA_8, inA_9, inA_10, al_0, al_1, al_2, al_4, al_5, al_98, bsP_2, bsP_3, wr_same, wr_wr, wr_ne, up_same, up_ne, Nat.reduceAdd, Int.reduceAdd, Int.reduceSub, Int.reduceMul, Int.reduceLT, Int.reduceLE, Int.reduceEq, Int.reduceNeg, Int.reduceToNat, Nat.reduceLT, Nat.reduceLeDiff, Nat.reduceEqDiff, ↓reduceIte, true_and, and_true, not_true_eq_false, not_false_eq_true, eq_self, or_true, true_or, or_false, false_or, if_true, if_false, Int.toNat_natCast, w_ite, Nat.add_zero, reduceCtorEq, ne_eq, m0, m1, e, e2]
      have i2 := ih (k + 1) (a + t.getD k 0) (by omega)
      simp only [Int.natCast_add, Int.natCast_one, ← Int.add_assoc] at i2 ⊢
      exact i2
  have := lp t.length 0 0 (by omega)
  simp only [Int.natCast_zero, List.drop_zero, Int.zero_add, Int.add_zero] at this
  simp (disch := omega) only [q_39_0, q_39_1, q_39_2, q_39_5, q_39_6, q_39_7, q_39_8, q_39_9, q_39_12, q_39_13, q_39_14, q_39_15, q_39_17, q_39_18, q_39_22, q_39_23, q_39_26, q_39_28, q_39_29, q_39_32, q_39_34, q_39_35, q_39_36, q_39_38, q_39_41, q_39_44, q_39_46, q_39_e, va_rf_s, bz_0, bz_1, bz_ok, bb_ok, Nat.add_assoc, w_lt, w_add, w_sub, w_mul, w_div, em_def, w_eq, w_inT, ↓ilt_t, ↓ilt_f, ↓ieq_t, ↓ieq_f, ntT, w_b, w_ix, kx_v, kx_n, kl_n, kl_i, kl_r, kl_o, inA_i, inA_s, inA_b, inA_z, inA_l, inA_0, inA_4, inA_5, inA_6, inA_7, inA_8, inA_9, inA_10, al_0, al_1, al_2, al_4, al_5, al_98, bsP_2, bsP_3, wr_same, wr_wr, wr_ne, up_same, up_ne, Nat.reduceAdd, Int.reduceAdd, Int.reduceSub, Int.reduceMul, Int.reduceLT, Int.reduceLE, Int.reduceEq, Int.reduceNeg, Int.reduceToNat, Nat.reduceLT, Nat.reduceLeDiff, Nat.reduceEqDiff, ↓reduceIte, true_and, and_true, not_true_eq_false, not_false_eq_true, eq_self, or_true, true_or, or_false, false_or, if_true, if_false, Int.toNat_natCast, w_ite, Nat.add_zero, reduceCtorEq, ne_eq, s31, s32, m0]
  exact this
theorem sp_40 {u : Nat} {rs rs' : List Rl} (h : MemoS S (v + 1)) (h' : MemoS S (u + 1)) (n1 : 0 ≤ n) (n2 : n < 2147483648) (hM : MInv rs I v) (hM' : MInv rs' I u) (hr : rsOk rs) (hr' : rsOk rs') (hk : Kn I v n) (hk' : Kn I u n) (hbo : (sd rs n).isSome = (sd rs' n).isSome) : XC (d + 2) 40 [.ref (v + 1), .ref (u + 1), .int (w n)] (mk S I L R G) Q ↔ Q (.inl (some (.int (bz (decide (T rs n = T rs' n)))))) (mk S I L R G) := by
  have s30 := fun {d : Nat} {Q : XO → Hp → Prop} => sp_30 (d := d) (Q := Q) (I := I) (L := L) (R := R) (G := G) h (show -2147483648 ≤ n by omega) n2
  have s30' := fun {d : Nat} {Q : XO → Hp → Prop} => sp_30 (d := d) (Q := Q) (I := I) (L := L) (R := R) (G := G) h' (show -2147483648 ≤ n by omega) n2
  have s31 := fun {d : Nat} {Q : XO → Hp → Prop} => sp_31 (d := d) (Q := Q) (I := I) (L := L) (R := R) (G := G) h (show -2147483648 ≤ n by omega) n2
  have s31' := fun {d : Nat} {Q : XO → Hp → Prop} => sp_31 (d := d) (Q := Q) (I := I) (L := L) (R := R) (G := G) h' (show -2147483648 ≤ n by omega) n2
  obtain ⟨m0, m1, -⟩ := id h
  obtain ⟨m0', m1', -⟩ := id h'
  simp only [Nat.add_assoc, Nat.reduceAdd] at m1 m1'
  have hl := sl_bd n
  have hc : slot n * 100 = ((sl n * 100 : Nat) : Int) := by rw [Int.natCast_mul, sl_c]; rfl
  cases e : sd rs n with
  | none =>
    have et : T rs n = none := by unfold T; rw [e]; rfl
    have k1 := Kn.silent hM hk n1 e
    cases e' : sd rs' n with
    | none =>
      have et' : T rs' n = none := by unfold T; rw [e']; rfl
      have k1' := Kn.silent hM' hk' n1 e'
      have s32 := fun {d : Nat} {Q : XO → Hp → Prop} => sp_32n (d := d) (Q := Q) (I := I) (L := L) (R := R) (G := G) h (show -2147483648 ≤ n by omega) n2 k1.1
      have s32' := fun {d : Nat} {Q : XO → Hp → Prop} => sp_32n (d := d) (Q := Q) (I := I) (L := L) (R := R) (G := G) h' (show -2147483648 ≤ n by omega) n2 k1'.1
      have s151 := fun {d : Nat} {Q : XO → Hp → Prop} => sp_cmp (d := d) (Q := Q) (I := I) (L := L) (R := R) (G := G) (p := sl n * 100) (q := sl n * 100) (s := []) (t := []) m1 m1' (by decide) (by decide) (by simp; omega) (by simp; omega) (fun i hi => nomatch hi) (fun i hi => nomatch hi)
      simp only [List.length_nil, Int.natCast_zero] at s151
      rw [et, et', decide_eq_true rfl]
      simp (disch := omega) only [q_40_0, q_40_1, q_40_4, q_40_5, q_40_6, q_40_9, q_40_10, q_40_11, q_40_14, q_40_15, q_40_18, q_40_19, q_40_20, q_40_23, q_40_24, q_40_25, q_40_28, q_40_31, q_40_34, q_40_35, q_40_38, q_40_39, q_40_e, va_rf_s, bz_0, bz_1, bz_ok, bb_ok, Nat.add_assoc, w_lt, w_add, w_sub, w_mul, w_div, em_def, w_eq, w_inT, ↓ilt_t, ↓ilt_f, ↓ieq_t, ↓ieq_f, ntT, w_b, w_ix, kx_v, kx_n, kl_n, kl_i, kl_r, kl_o, inA_i, inA_s, inA_b, inA_z, inA_l, inA_0, inA_4, inA_5, inA_6, inA_7, inA_8, inA_9, inA_10, al_0, al_1, al_2, al_4, al_5, al_98, bsP_2, bsP_3, wr_same, wr_wr, wr_ne, up_same, up_ne, Nat.reduceAdd, Int.reduceAdd, Int.reduceSub, Int.reduceMul, Int.reduceLT, Int.reduceLE, Int.reduceEq, Int.reduceNeg, Int.reduceToNat, Nat.reduceLT, Nat.reduceLeDiff, Nat.reduceEqDiff, ↓reduceIte, true_and, and_true, not_true_eq_false, not_false_eq_true, eq_self, or_true, true_or, or_false, false_or, if_true, if_false, Int.toNat_natCast, w_ite, Nat.add_zero, reduceCtorEq, ne_eq, m0, m0', s30, s30', s31, s31', s32, s32', k1.2, k1'.2, hc, s151, lexc, List.length_nil, Int.natCast_zero, Int.neg_zero, bz_f, bz_t]
    | some x => rw [e, e'] at hbo; exact absurd hbo (by simp)
  | some x =>
    have et : T rs n = some x.1 := by unfold T; rw [e]; rfl
    have k1 := Kn.said (t := x.1) (a := x.2) hM hk n1 e
    cases e' : sd rs' n with
    | none => rw [e, e'] at hbo; exact absurd hbo (by simp)
    | some y =>
      have et' : T rs' n = some y.1 := by unfold T; rw [e']; rfl
      have k1' := Kn.said (t := y.1) (a := y.2) hM' hk' n1 e'
      have hs := Kn.Sd hM hr hk n1 et
      have hs' := Kn.Sd hM' hr' hk' n1 et'
      have s32 := fun {d : Nat} {Q : XO → Hp → Prop} => sp_32t (d := d) (Q := Q) (L := L) (R := R) (G := G) h (show -2147483648 ≤ n by omega) n2 hs
      have s32' := fun {d : Nat} {Q : XO → Hp → Prop} => sp_32t (d := d) (Q := Q) (L := L) (R := R) (G := G) h' (show -2147483648 ≤ n by omega) n2 hs'
      have s151 := fun {d : Nat} {Q : XO → Hp → Prop} => sp_cmp (d := d) (Q := Q) (I := I) (L := L) (R := R) (G := G) (p := sl n * 100) (q := sl n * 100) (s := x.1) (t := y.1) m1 m1' (by decide) (by decide) (by have := hs.2.2.1; omega) (by have := hs'.2.2.1; omega) hs.2.2.2.1 hs'.2.2.2.1
      have hx := lexc_0 hs.2.2.2.2.bd hs'.2.2.2.2.bd
      have hb : -2147483648 ≤ lexc x.1 y.1 ∧ lexc x.1 y.1 < 2147483648 := by have := lexc_bd x.1 y.1; have := hs.2.2.1; have := hs'.2.2.1; omega
      rw [et, et']
      simp (disch := omega) only [q_40_0, q_40_1, q_40_4, q_40_5, q_40_6, q_40_9, q_40_10, q_40_11, q_40_14, q_40_15, q_40_18, q_40_19, q_40_20, q_40_23, q_40_24, q_40_25, q_40_28, q_40_31, q_40_34, q_40_35, q_40_38, q_40_39, q_40_e, va_rf_s, bz_0, bz_1, bz_ok, bb_ok, Nat.add_assoc, w_lt, w_add, w_sub, w_mul, w_div, em_def, w_eq, w_inT, ↓ilt_t, ↓ilt_f, ↓ieq_t, ↓ieq_f, ntT, w_b, w_ix, kx_v, kx_n, kl_n, kl_i, kl_r, kl_o, inA_i, inA_s, inA_b, inA_z, inA_l, inA_0, inA_4, inA_5, inA_6, inA_7, inA_8, inA_9, inA_10, al_0, al_1, al_2, al_4, al_5, al_98, bsP_2, bsP_3, wr_same, wr_wr, wr_ne, up_same, up_ne, Nat.reduceAdd, Int.reduceAdd, Int.reduceSub, Int.reduceMul, Int.reduceLT, Int.reduceLE, Int.reduceEq, Int.reduceNeg, Int.reduceToNat, Nat.reduceLT, Nat.reduceLeDiff, Nat.reduceEqDiff, ↓reduceIte, true_and, and_true, not_true_eq_false, not_false_eq_true, eq_self, or_true, true_or, or_false, false_or, if_true, if_false, Int.toNat_natCast, w_ite, Nat.add_zero, reduceCtorEq, ne_eq, m0, m0', s30, s30', s31, s31', s32, s32', k1.2.2.2.2.1, k1'.2.2.2.2.1, hc, s151, bz_f, bz_t]
      by_cases c : x.1 = y.1
      · rw [if_pos (hx.mpr c), decide_eq_true (by rw [c])]
        exact Iff.rfl
      · rw [if_neg (fun h => c (hx.mp h)), decide_eq_false (fun h => c (Option.some.inj h))]
        exact Iff.rfl
end

/-! learning -/
def rsW (rs : List Rl) (z : Int) : List Rl := if 0 ≤ z ∧ z < rs.length then rs.eraseIdx z.toNat else rs
theorem rsW_len {rs : List Rl} {z : Int} : (rsW rs z).length = rs.length - (if 0 ≤ z ∧ z < rs.length then 1 else 0) := by
  unfold rsW
  split
  · rename_i h; rw [List.length_eraseIdx_of_lt (by omega)]
  · rfl
theorem rsW_get {rs : List Rl} {z : Int} {j : Nat} (hj : j < (rsW rs z).length) : (rsW rs z).getD j rd0 = rs.getD (j + (if 0 ≤ z ∧ z ≤ j then 1 else 0)) rd0 := by
  rw [rsW_len] at hj
  unfold rsW
  split
  · rename_i h
    rw [List.getD_eq_getElem?_getD, List.getD_eq_getElem?_getD, List.getElem?_eraseIdx]
    by_cases c : j < z.toNat
    · rw [if_pos c, if_neg (by omega), Nat.add_zero]
    · rw [if_neg c, if_pos (by omega)]
  · rename_i h
    rw [if_neg h] at hj
    rw [if_neg (by omega), Nat.add_zero]
theorem sh_k {k : Nat} (hk : k < 30) : (((w k).toUInt32 &&& Int32.toUInt32 31).toBitVec % 32#32) = BitVec.ofNat 32 k := by
    match k, hk with
    | 0, _ => decide
    | 1, _ => decide
    | 2, _ => decide
    | 3, _ => decide
    | 4, _ => decide
    | 5, _ => decide
    | 6, _ => decide
    | 7, _ => decide
    | 8, _ => decide
    | 9, _ => decide
    | 10, _ => decide
    | 11, _ => decide
    | 12, _ => decide
    | 13, _ => decide
    | 14, _ => decide
    | 15, _ => decide
    | 16, _ => decide
    | 17, _ => decide
    | 18, _ => decide
    | 19, _ => decide
    | 20, _ => decide
    | 21, _ => decide
    | 22, _ => decide
    | 23, _ => decide
    | 24, _ => decide
    | 25, _ => decide
    | 26, _ => decide
    | 27, _ => decide
    | 28, _ => decide
    | 29, _ => decide
    | k + 30, h => omega
theorem bit_u {x : Int32} {k : Nat} (hk : k < 30) : (x.toUInt32 >>> ((w k).toUInt32 &&& Int32.toUInt32 31)).toInt32 &&& w 1 = bz (x.toBitVec.getLsbD k) := by
  apply Int32.toBitVec_inj.mp
  show (x.toBitVec >>> (((w k).toUInt32 &&& Int32.toUInt32 31).toBitVec % 32#32)) &&& 1#32 = _
  rw [sh_k hk]
  show (x.toBitVec >>> (BitVec.ofNat 32 k).toNat) &&& 1#32 = _
  rw [BitVec.toNat_ofNat, Nat.mod_eq_of_lt (by omega)]
  apply BitVec.eq_of_getLsbD_eq
  intro i hi
  rw [BitVec.getLsbD_and, BitVec.getLsbD_ushiftRight, BitVec.getLsbD_one]
  cases h : x.toBitVec.getLsbD k with
  | true =>
    show _ = (1#32).getLsbD i
    rw [BitVec.getLsbD_one]
    by_cases c : i = 0
    · subst c; simp [h]
    · simp [c]
  | false =>
    show _ = (0#32).getLsbD i
    by_cases c : i = 0
    · subst c; simp [h]
    · simp [c]
section
variable {d : Nat} {Q : XO → Hp → Prop} {S : SH} {I : MI} {L : ML} {R : MR} {G : MG} {A : Hp}
theorem sp_269 {a n : Nat} {x : Int32} (h : S a = some (.inl (0, n))) (hn : n < 2147483648) : XC d 269 [.ref a, .int x] (mk S I L R G) Q ↔ Q (.inl none) (mk S (wr I a (mix (I a) (fun _ => x) n)) L R G) := by
  have lp : ∀ (j i : Nat), i + j = n → (XX d 269 5 [some (.ref a), some (.int x), some (.int (w i)), some (.int (w n))] [] (mk S (wr I a (mix (I a) (fun _ => x) i)) L R G) Q ↔ Q (.inl none) (mk S (wr I a (mix (I a) (fun _ => x) n)) L R G)) := by
    intro j
    induction j with
    | zero =>
      intro i hi
      have : i = n := by omega
      subst this
      rw [q_269_5]
      simp (disch := omega) only [q_269_0, q_269_1, q_269_2, q_269_3, q_269_4, q_269_6, q_269_7, q_269_10, q_269_11, q_269_12, q_269_13, q_269_14, q_269_17, q_269_20, q_269_e, va_rf_s, bz_0, bz_1, bz_ok, bb_ok, Nat.add_assoc, w_lt, w_add, w_sub, w_mul, w_div, em_def, w_eq, w_inT, ↓ilt_t, ↓ilt_f, ↓ieq_t, ↓ieq_f, ntT, w_b, w_ix, kx_v, kx_n, kl_n, kl_i, kl_r, kl_o, inA_i, inA_s, inA_b, inA_z, inA_l, inA_0, inA_4, inA_5, inA_6, inA_7, inA_8, inA_9, inA_10, al_0, al_1, al_2, al_4, al_5, al_98, bsP_2, bsP_3, wr_same, wr_wr, wr_ne, up_same, up_ne, Nat.reduceAdd, Int.reduceAdd, Int.reduceSub, Int.reduceMul, Int.reduceLT, Int.reduceLE, Int.reduceEq, Int.reduceNeg, Int.reduceToNat, Nat.reduceLT, Nat.reduceLeDiff, Nat.reduceEqDiff, ↓reduceIte, true_and, and_true, not_true_eq_false, not_false_eq_true, eq_self, or_true, true_or, or_false, false_or, if_true, if_false, Int.toNat_natCast, w_ite, Nat.add_zero, reduceCtorEq, ne_eq]
    | succ j ih =>
      intro i hi
      rw [q_269_5]
      simp (disch := omega) only [q_269_0, q_269_1, q_269_2, q_269_3, q_269_4, q_269_6, q_269_7, q_269_10, q_269_11, q_269_12, q_269_13, q_269_14, q_269_17, q_269_20, q_269_e, va_rf_s, bz_0, bz_1, bz_ok, bb_ok, Nat.add_assoc, w_lt, w_add, w_sub, w_mul, w_div, em_def, w_eq, w_inT, ↓ilt_t, ↓ilt_f, ↓ieq_t, ↓ieq_f, ntT, w_b, w_ix, kx_v, kx_n, kl_n, kl_i, kl_r, kl_o, inA_i, inA_s, inA_b, inA_z, inA_l, inA_0, inA_4, inA_5, inA_6, inA_7, inA_8, inA_9, inA_10, al_0, al_1, al_2, al_4, al_5, al_98, bsP_2, bsP_3, wr_same, wr_wr, wr_ne, up_same, up_ne, Nat.reduceAdd, Int.reduceAdd, Int.reduceSub, Int.reduceMul, Int.reduceLT, Int.reduceLE, Int.reduceEq, Int.reduceNeg, Int.reduceToNat, Nat.reduceLT, Nat.reduceLeDiff, Nat.reduceEqDiff, ↓reduceIte, true_and, and_true, not_true_eq_false, not_false_eq_true, eq_self, or_true, true_or, or_false, false_or, if_true, if_false, Int.toNat_natCast, w_ite, Nat.add_zero, reduceCtorEq, ne_eq, h]
      have := ih (i + 1) (by omega)
      rw [← mix_s (n := i)] at this
      simp only [Int.natCast_add, Int.natCast_one] at this
      exact this
  have := lp n 0 (by omega)
  rw [mix_0, wr_self] at this
  simp (disch := omega) only [q_269_0, q_269_1, q_269_2, q_269_3, q_269_4, q_269_6, q_269_7, q_269_10, q_269_11, q_269_12, q_269_13, q_269_14, q_269_17, q_269_20, q_269_e, va_rf_s, bz_0, bz_1, bz_ok, bb_ok, Nat.add_assoc, w_lt, w_add, w_sub, w_mul, w_div, em_def, w_eq, w_inT, ↓ilt_t, ↓ilt_f, ↓ieq_t, ↓ieq_f, ntT, w_b, w_ix, kx_v, kx_n, kl_n, kl_i, kl_r, kl_o, inA_i, inA_s, inA_b, inA_z, inA_l, inA_0, inA_4, inA_5, inA_6, inA_7, inA_8, inA_9, inA_10, al_0, al_1, al_2, al_4, al_5, al_98, bsP_2, bsP_3, wr_same, wr_wr, wr_ne, up_same, up_ne, Nat.reduceAdd, Int.reduceAdd, Int.reduceSub, Int.reduceMul, Int.reduceLT, Int.reduceLE, Int.reduceEq, Int.reduceNeg, Int.reduceToNat, Nat.reduceLT, Nat.reduceLeDiff, Nat.reduceEqDiff, ↓reduceIte, true_and, and_true, not_true_eq_false, not_false_eq_true, eq_self, or_true, true_or, or_false, false_or, if_true, if_false, Int.toNat_natCast, w_ite, Nat.add_zero, reduceCtorEq, ne_eq, h]
  exact this
theorem sp_26 {a : Nat} (h : MemoS S a) : XC (d + 1) 26 [.ref a] (mk S I L R G) Q ↔ Q (.inl none) (mk S (wr I (a + 2) (mix (I (a + 2)) (fun _ => w (-1)) 1152)) L R G) := by
  have s := fun {d : Nat} {Q : XO → Hp → Prop} => sp_269 (d := d) (Q := Q) (I := I) (L := L) (R := R) (G := G) (x := w (-1)) h.2.2.1 (by decide)
  simp (disch := omega) only [q_26_0, q_26_1, q_26_4, q_26_5, q_26_8, q_26_e, va_rf_s, bz_0, bz_1, bz_ok, bb_ok, Nat.add_assoc, w_lt, w_add, w_sub, w_mul, w_div, em_def, w_eq, w_inT, ↓ilt_t, ↓ilt_f, ↓ieq_t, ↓ieq_f, ntT, w_b, w_ix, kx_v, kx_n, kl_n, kl_i, kl_r, kl_o, inA_i, inA_s, inA_b, inA_z, inA_l, inA_0, inA_4, inA_5, inA_6, inA_7, inA_8, inA_9, inA_10, al_0, al_1, al_2, al_4, al_5, al_98, bsP_2, bsP_3, wr_same, wr_wr, wr_ne, up_same, up_ne, Nat.reduceAdd, Int.reduceAdd, Int.reduceSub, Int.reduceMul, Int.reduceLT, Int.reduceLE, Int.reduceEq, Int.reduceNeg, Int.reduceToNat, Nat.reduceLT, Nat.reduceLeDiff, Nat.reduceEqDiff, ↓reduceIte, true_and, and_true, not_true_eq_false, not_false_eq_true, eq_self, or_true, true_or, or_false, false_or, if_true, if_false, Int.toNat_natCast, w_ite, Nat.add_zero, reduceCtorEq, ne_eq, h.1, s]
theorem sp_81 {v b l lo : Nat} {rs : List Rl} {z : Int} (hV : VoiS S v) (hB : BookS S b) (hl : l < 2) (hk : BkL S I L R b lo l rs) (hvb : b + 3 ≤ v ∨ v + 17 ≤ b) (hvl : v + 17 ≤ lo) (z1 : -1 ≤ z) (z2 : z < 31)
    (hQ : ∀ (I' : MI) (R' : MR), (∀ a, (a < v ∨ v + 17 ≤ a) → I' a = I a) → (∀ a, a ≠ v + 12 → R' a = R a) → RsAt S I' L R' v (rsW rs z) → MInv (rsW rs z) I' v → UInv (rsW rs z) I' v → (∀ k, ubit I' v k = false) → (∀ i, i < 30 → (∃ q, q < 60 ∧ R' (v + 12) i = R (b + 1) q) ∨ R' (v + 12) i = R (v + 12) i) → Q (.inl none) (mk S I' L R' G)) :
    XC (d + 3) 81 [.ref v, .ref b, .int (w l), .int (w z)] (mk S I L R G) Q := by
  obtain ⟨g0, g1, g2, g3, g4, g5, g6, g7⟩ := id hV
  obtain ⟨k1, k2, k3⟩ := hk
  have lp : ∀ (j i c : Nat) (I1 : MI) (R1 : MR), i + j = rs.length → (c : Int) = i - (if 0 ≤ z ∧ z < i then 1 else 0) → (∀ a, a ≠ v → I1 a = I a) → (∀ j, j ≠ 3 → I1 v j = I v j) → I1 v 3 = w c → (∀ a, a ≠ v + 12 → R1 a = R a) → (∀ j, j < c → R1 (v + 12) j = R (b + 1) (l * 30 + (j + (if 0 ≤ z ∧ z ≤ j then 1 else 0)))) → (∀ j, c ≤ j → R1 (v + 12) j = R (v + 12) j) → XX (d + 3) 81 8 [some (.ref v), some (.ref b), some (.int (w l)), some (.int (w z)), some (.int (w i))] [] (mk S I1 L R1 G) Q := by
    intro j
    induction j with
    | zero =>
      intro i c I1 R1 hi hc h1 h2 h3 h4 h5 h6
      have s1 := fun {d : Nat} {Q : XO → Hp → Prop} => sp_1 (d := d) (Q := Q) (I := I1) (L := L) (R := R1) (G := G) hB hl (by rw [h1 _ (by omega)]; exact k1)
      rw [q_81_8]
      simp (disch := omega) only [q_81_0, q_81_1, q_81_2, q_81_5, q_81_6, q_81_10, q_81_11, q_81_12, q_81_15, q_81_18, q_81_19, q_81_22, q_81_24, q_81_27, q_81_29, q_81_30, q_81_33, q_81_34, q_81_37, q_81_38, q_81_41, q_81_42, q_81_43, q_81_45, q_81_48, q_81_48o, q_81_49, q_81_50, q_81_51, q_81_54, q_81_55, q_81_56, q_81_59, q_81_62, q_81_65, q_81_66, q_81_67, q_81_70, q_81_71, q_81_74, q_81_77, q_81_e, va_rf_s, bz_0, bz_1, bz_ok, bb_ok, Nat.add_assoc, w_lt, w_add, w_sub, w_mul, w_div, em_def, w_eq, w_inT, ↓ilt_t, ↓ilt_f, ↓ieq_t, ↓ieq_f, ntT, w_b, w_ix, kx_v, kx_n, kl_n, kl_i, kl_r, kl_o, inA_i, inA_s, inA_b, inA_z, inA_l, inA_0, inA_4, inA_5, inA_6, inA_7, inA_8, inA_9, inA_10, al_0, al_1, al_2, al_4, al_5, al_98, bsP_2, bsP_3, wr_same, wr_wr, wr_ne, up_same, up_ne, Nat.reduceAdd, Int.reduceAdd, Int.reduceSub, Int.reduceMul, Int.reduceLT, Int.reduceLE, Int.reduceEq, Int.reduceNeg, Int.reduceToNat, Nat.reduceLT, Nat.reduceLeDiff, Nat.reduceEqDiff, ↓reduceIte, true_and, and_true, not_true_eq_false, not_false_eq_true, eq_self, or_true, true_or, or_false, false_or, if_true, if_false, Int.toNat_natCast, w_ite, Nat.add_zero, reduceCtorEq, ne_eq, g0, g1.1, hB.1, s1]
      refine (sp_26 g1).mpr ?_
      simp (disch := omega) only [q_81_0, q_81_1, q_81_2, q_81_5, q_81_6, q_81_10, q_81_11, q_81_12, q_81_15, q_81_18, q_81_19, q_81_22, q_81_24, q_81_27, q_81_29, q_81_30, q_81_33, q_81_34, q_81_37, q_81_38, q_81_41, q_81_42, q_81_43, q_81_45, q_81_48, q_81_48o, q_81_49, q_81_50, q_81_51, q_81_54, q_81_55, q_81_56, q_81_59, q_81_62, q_81_65, q_81_66, q_81_67, q_81_70, q_81_71, q_81_74, q_81_77, q_81_e, va_rf_s, bz_0, bz_1, bz_ok, bb_ok, Nat.add_assoc, w_lt, w_add, w_sub, w_mul, w_div, em_def, w_eq, w_inT, ↓ilt_t, ↓ilt_f, ↓ieq_t, ↓ieq_f, ntT, w_b, w_ix, kx_v, kx_n, kl_n, kl_i, kl_r, kl_o, inA_i, inA_s, inA_b, inA_z, inA_l, inA_0, inA_4, inA_5, inA_6, inA_7, inA_8, inA_9, inA_10, al_0, al_1, al_2, al_4, al_5, al_98, bsP_2, bsP_3, wr_same, wr_wr, wr_ne, up_same, up_ne, Nat.reduceAdd, Int.reduceAdd, Int.reduceSub, Int.reduceMul, Int.reduceLT, Int.reduceLE, Int.reduceEq, Int.reduceNeg, Int.reduceToNat, Nat.reduceLT, Nat.reduceLeDiff, Nat.reduceEqDiff, ↓reduceIte, true_and, and_true, not_true_eq_false, not_false_eq_true, eq_self, or_true, true_or, or_false, false_or, if_true, if_false, Int.toNat_natCast, w_ite, Nat.add_zero, reduceCtorEq, ne_eq]
      have hcl : c = (rsW rs z).length := by
        rw [rsW_len]
        have : i = rs.length := by omega
        subst this
        split
        · rename_i h; rw [if_pos h] at hc; omega
        · rename_i h; rw [if_neg h] at hc; omega
      have e0 : ∀ s, s < 1152 → gi (wr (wr I1 v (up (I1 v) 4 (w 0))) (v + 3) (mix (I1 (v + 3)) (fun _ => w (-1)) 1152)) (v + 3) s = -1 := fun s hs => by
        rw [gi_wr]; unfold mix; rw [if_pos hs]; exact w_toInt (by decide) (by decide)
      have eb : ∀ k, ubit (wr (wr I1 v (up (I1 v) 4 (w 0))) (v + 3) (mix (I1 (v + 3)) (fun _ => w (-1)) 1152)) v k = false := fun k => by
        unfold ubit; rw [wr_ne (by omega), wr_same, up_same]
        show (0#32).getLsbD k = false
        simp
      refine hQ _ R1 (fun a ha => ?_) h4 ⟨?_, ?_, fun j hj => ?_⟩ (fun s hs => Or.inl (e0 s hs)) (fun k hk hu s hs h0 => ?_) eb (fun j hj => ?_)
      · rw [wr_ne (by omega), wr_ne (by omega), h1 a (by omega)]
      · rw [wr_ne (by omega), wr_same, up_ne (by decide), h3, hcl]
      · rw [rsW_len]; omega
      · have hj2 := hj
        rw [rsW_len] at hj2
        have hlt : j + (if 0 ≤ z ∧ z ≤ j then 1 else 0) < rs.length := by
          split at hj2
          · split <;> omega
          · split <;> omega
        obtain ⟨r, r1, r2, r3⟩ := k3 _ hlt
        refine ⟨r, by rw [h5 j (by omega)]; exact r1, by omega, ?_⟩
        rw [rsW_get hj]
        exact r3.congr (by rw [wr_ne (by omega), wr_ne (by omega), h1 _ (by omega)]) (by rw [wr_ne (by omega), wr_ne (by omega), h1 _ (by omega)]) (by rw [wr_ne (by omega), wr_ne (by omega), h1 _ (by omega)])
      · rw [e0 s hs] at h0; omega
      · by_cases c1 : j < c
        · have hlt : j + (if 0 ≤ z ∧ z ≤ j then 1 else 0) < rs.length := by
            split at hc
            · split <;> omega
            · split <;> omega
          exact Or.inl ⟨_, by omega, h5 j c1⟩
        · exact Or.inr (h6 j (by omega))
    | succ j ih =>
      intro i c I1 R1 hi hc h1 h2 h3 h4 h5 h6
      have s1 := fun {d : Nat} {Q : XO → Hp → Prop} => sp_1 (d := d) (Q := Q) (I := I1) (L := L) (R := R1) (G := G) hB hl (by rw [h1 _ (by omega)]; exact k1)
      obtain ⟨r, r1, r2, r3⟩ := k3 i (by omega)
      have s2 := fun {d : Nat} {Q : XO → Hp → Prop} => sp_2 (d := d) (Q := Q) (I := I1) (L := L) (R := R1) (G := G) hB hl (by rw [h1 _ (by omega)]; exact k1) k2 (show i < rs.length by omega) (by rw [h4 _ (by omega)]; exact r1)
      have hci : c ≤ i := by split at hc <;> omega
      have ha : aqP (some (.inl (4, 30))) S (some r) (w c) ↔ True := aq4 (fun y hy => by cases hy; exact r3.1) ((w_in (by omega) (by omega)).mpr ⟨by omega, by omega⟩)
      rw [q_81_8]
      by_cases cz : (i : Int) = z
      · simp (disch := omega) only [q_81_0, q_81_1, q_81_2, q_81_5, q_81_6, q_81_10, q_81_11, q_81_12, q_81_15, q_81_18, q_81_19, q_81_22, q_81_24, q_81_27, q_81_29, q_81_30, q_81_33, q_81_34, q_81_37, q_81_38, q_81_41, q_81_42, q_81_43, q_81_45, q_81_48, q_81_48o, q_81_49, q_81_50, q_81_51, q_81_54, q_81_55, q_81_56, q_81_59, q_81_62, q_81_65, q_81_66, q_81_67, q_81_70, q_81_71, q_81_74, q_81_77, q_81_e, va_rf_s, bz_0, bz_1, bz_ok, bb_ok, Nat.add_assoc, w_lt, w_add, w_sub, w_mul, w_div, em_def, w_eq, w_inT, ↓ilt_t, ↓ilt_f, ↓ieq_t, ↓ieq_f, ntT, w_b, w_ix, kx_v, kx_n, kl_n, kl_i, kl_r, kl_o, inA_i, inA_s, inA_b, inA_z, inA_l, inA_0, inA_4, inA_5, inA_6, inA_7, inA_8, inA_9, inA_10, al_0, al_1, al_2, al_4, al_5, al_98, bsP_2, bsP_3, wr_same, wr_wr, wr_ne, up_same, up_ne, Nat.reduceAdd, Int.reduceAdd, Int.reduceSub, Int.reduceMul, Int.reduceLT, Int.reduceLE, Int.reduceEq, Int.reduceNeg, Int.reduceToNat, Nat.reduceLT, Nat.reduceLeDiff, Nat.reduceEqDiff, ↓reduceIte, true_and, and_true, not_true_eq_false, not_false_eq_true, eq_self, or_true, true_or, or_false, false_or, if_true, if_false, Int.toNat_natCast, w_ite, Nat.add_zero, reduceCtorEq, ne_eq, g0, hB.1, s1, h3]
        have := ih (i + 1) c I1 R1 (by omega) (by rw [if_pos (by omega)]; rw [if_neg (by omega)] at hc; omega) h1 h2 h3 h4 h5 h6
        simp only [Int.natCast_add, Int.natCast_one] at this
        exact this
      · simp (disch := omega) only [q_81_0, q_81_1, q_81_2, q_81_5, q_81_6, q_81_10, q_81_11, q_81_12, q_81_15, q_81_18, q_81_19, q_81_22, q_81_24, q_81_27, q_81_29, q_81_30, q_81_33, q_81_34, q_81_37, q_81_38, q_81_41, q_81_42, q_81_43, q_81_45, q_81_48, q_81_48o, q_81_49, q_81_50, q_81_51, q_81_54, q_81_55, q_81_56, q_81_59, q_81_62, q_81_65, q_81_66, q_81_67, q_81_70, q_81_71, q_81_74, q_81_77, q_81_e, va_rf_s, bz_0, bz_1, bz_ok, bb_ok, Nat.add_assoc, w_lt, w_add, w_sub, w_mul, w_div, em_def, w_eq, w_inT, ↓ilt_t, ↓ilt_f, ↓ieq_t, ↓ieq_f, ntT, w_b, w_ix, kx_v, kx_n, kl_n, kl_i, kl_r, kl_o, inA_i, inA_s, inA_b, inA_z, inA_l, inA_0, inA_4, inA_5, inA_6, inA_7, inA_8, inA_9, inA_10, al_0, al_1, al_2, al_4, al_5, al_98, bsP_2, bsP_3, wr_same, wr_wr, wr_ne, up_same, up_ne, Nat.reduceAdd, Int.reduceAdd, Int.reduceSub, Int.reduceMul, Int.reduceLT, Int.reduceLE, Int.reduceEq, Int.reduceNeg, Int.reduceToNat, Nat.reduceLT, Nat.reduceLeDiff, Nat.reduceEqDiff, ↓reduceIte, true_and, and_true, not_true_eq_false, not_false_eq_true, eq_self, or_true, true_or, or_false, false_or, if_true, if_false, Int.toNat_natCast, w_ite, Nat.add_zero, reduceCtorEq, ne_eq, g0, g3, hB.1, s1, s2, h3, ha]
        have hd : (i : Int) - (if 0 ≤ z ∧ z < i then 1 else 0) = c := hc.symm
        have := ih (i + 1) (c + 1) (wr I1 v (up (I1 v) 3 (w ((c : Int) + 1)))) (wr R1 (v + 12) (up (R1 (v + 12)) c (some r))) (by omega) (by
          split at hc
          · rw [if_pos (by omega)]; omega
          · rw [if_neg (by omega)]; omega) (fun a ha => by rw [wr_ne ha, h1 a ha]) (fun j hj => by rw [wr_same, up_ne hj, h2 j hj]) (by rw [wr_same, up_same]; rfl) (fun a ha => by rw [wr_ne ha, h4 a ha]) (fun q hq => by
            rw [wr_same]
            by_cases cq : q = c
            · subst cq
              rw [up_same]
              rw [← r1]
              congr 1
              split at hc
              · rw [if_pos (by omega)]; omega
              · rw [if_neg (by omega)]; omega
            · rw [up_ne cq]; exact h5 q (by omega)) (fun q hq => by rw [wr_same, up_ne (by omega)]; exact h6 q (by omega))
        simp only [Int.natCast_add, Int.natCast_one] at this
        exact this
  have := lp rs.length 0 0 (wr I v (up (I v) 3 (w 0))) R (by omega) (by rw [if_neg (by omega)]; rfl) (fun a ha => wr_ne ha) (fun j hj => by rw [wr_same, up_ne hj]) (by rw [wr_same, up_same]; rfl) (fun _ _ => rfl) (fun j hj => by omega) (fun _ _ => rfl)
  simp only [Int.natCast_zero] at this
  simp (disch := omega) only [q_81_0, q_81_1, q_81_2, q_81_5, q_81_6, q_81_10, q_81_11, q_81_12, q_81_15, q_81_18, q_81_19, q_81_22, q_81_24, q_81_27, q_81_29, q_81_30, q_81_33, q_81_34, q_81_37, q_81_38, q_81_41, q_81_42, q_81_43, q_81_45, q_81_48, q_81_48o, q_81_49, q_81_50, q_81_51, q_81_54, q_81_55, q_81_56, q_81_59, q_81_62, q_81_65, q_81_66, q_81_67, q_81_70, q_81_71, q_81_74, q_81_77, q_81_e, va_rf_s, bz_0, bz_1, bz_ok, bb_ok, Nat.add_assoc, w_lt, w_add, w_sub, w_mul, w_div, em_def, w_eq, w_inT, ↓ilt_t, ↓ilt_f, ↓ieq_t, ↓ieq_f, ntT, w_b, w_ix, kx_v, kx_n, kl_n, kl_i, kl_r, kl_o, inA_i, inA_s, inA_b, inA_z, inA_l, inA_0, inA_4, inA_5, inA_6, inA_7, inA_8, inA_9, inA_10, al_0, al_1, al_2, al_4, al_5, al_98, bsP_2, bsP_3, wr_same, wr_wr, wr_ne, up_same, up_ne, Nat.reduceAdd, Int.reduceAdd, Int.reduceSub, Int.reduceMul, Int.reduceLT, Int.reduceLE, Int.reduceEq, Int.reduceNeg, Int.reduceToNat, Nat.reduceLT, Nat.reduceLeDiff, Nat.reduceEqDiff, ↓reduceIte, true_and, and_true, not_true_eq_false, not_false_eq_true, eq_self, or_true, true_or, or_false, false_or, if_true, if_false, Int.toNat_natCast, w_ite, Nat.add_zero, reduceCtorEq, ne_eq, g0]
  exact this
theorem sp_86 {v k : Nat} (hV : VoiS S v) (hk : k < 30) : XC d 86 [.ref v, .int (w k)] (mk S I L R G) Q ↔ Q (.inl (some (.int (bz (ubit I v k))))) (mk S I L R G) := by
  simp (disch := omega) only [q_86_0, q_86_1, q_86_4, q_86_5, q_86_7, q_86_10, q_86_11, q_86_14, q_86_15, q_86_16, q_86_17, q_86_18, q_86_19, q_86_22, q_86_23, q_86_26, q_86_27, q_86_e, va_rf_s, bz_0, bz_1, bz_ok, bb_ok, Nat.add_assoc, w_lt, w_add, w_sub, w_mul, w_div, em_def, w_eq, w_inT, ↓ilt_t, ↓ilt_f, ↓ieq_t, ↓ieq_f, ntT, w_b, w_ix, kx_v, kx_n, kl_n, kl_i, kl_r, kl_o, inA_i, inA_s, inA_b, inA_z, inA_l, inA_0, inA_4, inA_5, inA_6, inA_7, inA_8, inA_9, inA_10, al_0, al_1, al_2, al_4, al_5, al_98, bsP_2, bsP_3, wr_same, wr_wr, wr_ne, up_same, up_ne, Nat.reduceAdd, Int.reduceAdd, Int.reduceSub, Int.reduceMul, Int.reduceLT, Int.reduceLE, Int.reduceEq, Int.reduceNeg, Int.reduceToNat, Nat.reduceLT, Nat.reduceLeDiff, Nat.reduceEqDiff, ↓reduceIte, true_and, and_true, not_true_eq_false, not_false_eq_true, eq_self, or_true, true_or, or_false, false_or, if_true, if_false, Int.toNat_natCast, w_ite, Nat.add_zero, reduceCtorEq, ne_eq, hV.1, bit_u]
  have e : (I v 4).toBitVec.getLsbD k = ubit I v k := rfl
  rw [e]
  cases h : ubit I v k
  · rw [if_neg (by decide)]; exact Iff.rfl
  · rw [if_pos rfl]; exact Iff.rfl
end

/-! the voice's other methods -/
def cnt (p : Nat → Bool) : Nat → Nat
  | 0 => 0
  | n + 1 => cnt p n + (if p n = true then 1 else 0)
theorem cnt_le (p : Nat → Bool) : ∀ n, cnt p n ≤ n
  | 0 => Nat.le_refl _
  | n + 1 => by
    have := cnt_le p n
    unfold cnt
    split <;> omega
theorem cnt_mono (p : Nat → Bool) : ∀ {m n}, m ≤ n → cnt p m ≤ cnt p n
  | m, 0, h => by rw [Nat.le_zero.mp h]; exact Nat.le_refl _
  | m, n + 1, h => by
    by_cases e : m = n + 1
    · rw [e]; exact Nat.le_refl _
    · exact Nat.le_trans (cnt_mono p (show m ≤ n by omega)) (Nat.le_add_right _ _)
theorem cnt_congr {p q : Nat → Bool} : ∀ n, (∀ i, i < n → p i = q i) → cnt p n = cnt q n
  | 0, _ => rfl
  | n + 1, h => by
    unfold cnt
    rw [cnt_congr n (fun i hi => h i (by omega)), h n (by omega)]
theorem Kn_vp {rs : List Rl} {I I' : MI} {v n : Nat} (h : vp rs I I' v) (hn : n ≤ 1000) (hk : Kn I v n) : Kn I' v n := by
  unfold Kn at hk ⊢
  rw [sl_small (by omega) (by omega)] at hk ⊢
  exact h.2.2.2.2.1 n hn hk
theorem Kn_congr {I I' : MI} {v : Nat} {n : Int} (h : I' (v + 3) = I (v + 3)) (hk : Kn I v n) : Kn I' v n := by
  unfold Kn at hk ⊢
  rw [gi_congr h]; exact hk
theorem sayIs_len {ask : Int → Int → SR} {z k : Int} {N : Nat} (h : ∀ a q l, ask a q = .inr l → l.length ≤ N) : ∀ (its : List It) (i : Int) (t : List Int) (g : Bool) (a : Int) (l : List C4), sayIs ask z k its i t g a = .inr l → l.length ≤ N + 1
  | [], i, t, g, a, l, e => by cases e
  | it :: r, i, t, g, a, l, e => by
    unfold sayIs at e
    split at e
    · exact sayIs_len h r _ _ _ _ _ e
    · split at e
      · split at e
        · cases e; simp
        · exact sayIs_len h r _ _ _ _ _ e
      · split at e
        · exact sayIs_len h r _ _ _ _ _ e
        · split at e
          · rename_i cs hc
            cases e
            have := h _ _ _ hc
            rw [List.length_cons]; omega
          · split at e
            · exact sayIs_len h r _ _ _ _ _ e
            · split at e
              · cases e; simp
              · exact sayIs_len h r _ _ _ _ _ e
theorem say_len {rs : List Rl} : ∀ (f : Nat) (op : List Int) (a z : Int) (l : List C4), say rs f op a z = .inr l → l.length ≤ f + 1
  | 0, op, a, z, l, e => by
    unfold say at e
    split at e
    · cases e; simp
    · split at e <;> (cases e; simp)
  | f + 1, op, a, z, l, e => by
    unfold say at e
    split at e
    · cases e; simp
    · split at e
      · cases e; simp
      · split at e
        · cases e; simp
        · split at e
          · cases e; simp
          · split at e
            · cases e; simp
            · exact sayIs_len (fun a q l h => say_len f _ a q l h) _ _ _ _ _ _ e
theorem cs_len (rs : List Rl) (n : Int) : (cs rs n).length ≤ 31 := by
  unfold cs
  split
  · simp
  · rename_i l h; exact say_len _ _ _ _ _ h
theorem vp.congr {rs : List Rl} {I I1 I2 : MI} {v : Nat} (h : vp rs I I1 v) (e : ∀ a, v ≤ a → a < v + 17 → I2 a = I1 a) : I2 v 3 = I v 3 ∧ MInv rs I2 v ∧ UInv rs I2 v ∧ (∀ s : Nat, s ≤ 1000 → gi I (v + 3) s = s → gi I2 (v + 3) s = s) ∧ (∀ k, ubit I v k = true → ubit I2 v k = true) := by
  obtain ⟨a1, a2, a3, a4, a5, a6⟩ := h
  have e0 := e v (by omega) (by omega)
  refine ⟨by rw [e0]; exact a2, a3.congr (e _ (by omega) (by omega)) (e _ (by omega) (by omega)) (e _ (by omega) (by omega)) (e _ (by omega) (by omega)) (e _ (by omega) (by omega)), a4.congr (fun k h => by unfold ubit at h ⊢; rw [e0]; exact h) (e _ (by omega) (by omega)) (e _ (by omega) (by omega)), fun s hs h => ?_, fun k h => ?_⟩
  · rw [gi_congr (e _ (by omega) (by omega))]; exact a5 s hs h
  · unfold ubit; rw [e0]; exact a6 k h
section
variable {d : Nat} {Q : XO → Hp → Prop} {S : SH} {I : MI} {L : ML} {R : MR} {G : MG} {A : Hp}
variable {v : Nat} {rs : List Rl}
theorem sp_37 {n : Int} {t : List Int} (h : MemoS S (v + 1)) (n1 : -2147483648 ≤ n) (n2 : n < 2147483648) (hs : Sd I v n t) : XC (d + 3) 37 [.ref (v + 1), .int (w n)] (mk S I L R G) Q ↔ Q (.inl (some (.int (w (if t.length = 0 then 0 else t.length - nlet t + 1))))) (mk S I L R G) := by
  have s32 := fun {d : Nat} {Q : XO → Hp → Prop} => sp_32t (d := d) (Q := Q) (L := L) (R := R) (G := G) h n1 n2 hs
  have s38 := fun {d : Nat} {Q : XO → Hp → Prop} => sp_38 (d := d) (Q := Q) (L := L) (R := R) (G := G) h n1 n2 hs
  have hb := nlet_bd t
  have hl := hs.2.2.1
  simp (disch := omega) only [q_37_0, q_37_1, q_37_2, q_37_5, q_37_6, q_37_7, q_37_10, q_37_11, q_37_14, q_37_15, q_37_16, q_37_20, q_37_21, q_37_22, q_37_23, q_37_e, va_rf_s, bz_0, bz_1, bz_ok, bb_ok, Nat.add_assoc, w_lt, w_add, w_sub, w_mul, w_div, em_def, w_eq, w_inT, ↓ilt_t, ↓ilt_f, ↓ieq_t, ↓ieq_f, ntT, w_b, w_ix, kx_v, kx_n, kl_n, kl_i, kl_r, kl_o, inA_i, inA_s, inA_b, inA_z, inA_l, inA_0, inA_4, inA_5, inA_6, inA_7, inA_8, inA_9, inA_10, al_0, al_1, al_2, al_4, al_5, al_98, bsP_2, bsP_3, wr_same, wr_wr, wr_ne, up_same, up_ne, Nat.reduceAdd, Int.reduceAdd, Int.reduceSub, Int.reduceMul, Int.reduceLT, Int.reduceLE, Int.reduceEq, Int.reduceNeg, Int.reduceToNat, Nat.reduceLT, Nat.reduceLeDiff, Nat.reduceEqDiff, ↓reduceIte, true_and, and_true, not_true_eq_false, not_false_eq_true, eq_self, or_true, true_or, or_false, false_or, if_true, if_false, Int.toNat_natCast, w_ite, Nat.add_zero, reduceCtorEq, ne_eq, s32, h.1]
  by_cases c : (t.length : Int) = 0
  · rw [if_pos c, if_pos (by omega)]
  · rw [if_neg c, if_neg (by omega), q_37_17, s38]
    simp (disch := omega) only [q_37_0, q_37_1, q_37_2, q_37_5, q_37_6, q_37_7, q_37_10, q_37_11, q_37_14, q_37_15, q_37_16, q_37_17, q_37_20, q_37_21, q_37_22, q_37_23, q_37_e, va_rf_s, bz_0, bz_1, bz_ok, bb_ok, Nat.add_assoc, w_lt, w_add, w_sub, w_mul, w_div, em_def, w_eq, w_inT, ↓ilt_t, ↓ilt_f, ↓ieq_t, ↓ieq_f, ntT, w_b, w_ix, kx_v, kx_n, kl_n, kl_i, kl_r, kl_o, inA_i, inA_s, inA_b, inA_z, inA_l, inA_0, inA_4, inA_5, inA_6, inA_7, inA_8, inA_9, inA_10, al_0, al_1, al_2, al_4, al_5, al_98, bsP_2, bsP_3, wr_same, wr_wr, wr_ne, up_same, up_ne, Nat.reduceAdd, Int.reduceAdd, Int.reduceSub, Int.reduceMul, Int.reduceLT, Int.reduceLE, Int.reduceEq, Int.reduceNeg, Int.reduceToNat, Nat.reduceLT, Nat.reduceLeDiff, Nat.reduceEqDiff, ↓reduceIte, true_and, and_true, not_true_eq_false, not_false_eq_true, eq_self, or_true, true_or, or_false, false_or, if_true, if_false, Int.toNat_natCast, w_ite, Nat.add_zero, reduceCtorEq, ne_eq, h.1]
theorem sp_83 {z : Int} {h : Nat} (hV : VoiS S v) (hR : RsAt S I L R v rs) (hh : h ≤ 1000) (z1 : -1 ≤ z) (z2 : z < 31) : XC (d + 2) 83 [.ref v, .int (w z), .int (w h)] (mk S I L R G) Q ↔ Q (.inl (some (.int (w (cnt (fun n => decide (ffz rs n = z)) (h + 1)))))) (mk S I L R G) := by
  have hf : ∀ n : Nat, -1 ≤ ffz rs n ∧ ffz rs n < 31 := fun n => by
    unfold ffz
    split
    · rename_i k hk
      have := (ff_get hk).1
      have := hR.2.1
      omega
    · omega
  have lp : ∀ (j n : Nat), n + j = h + 1 → (XX (d + 2) 83 5 [some (.ref v), some (.int (w z)), some (.int (w h)), some (.int (w (cnt (fun n => decide (ffz rs n = z)) n))), some (.int (w n))] [] (mk S I L R G) Q ↔ Q (.inl (some (.int (w (cnt (fun n => decide (ffz rs n = z)) (h + 1)))))) (mk S I L R G)) := by
    intro j
    induction j with
    | zero =>
      intro n hn
      have : n = h + 1 := by omega
      subst this
      rw [q_83_5]
      simp (disch := omega) only [q_83_0, q_83_1, q_83_2, q_83_3, q_83_7, q_83_8, q_83_11, q_83_12, q_83_14, q_83_17, q_83_18, q_83_21, q_83_24, q_83_27, q_83_30, q_83_31, q_83_e, va_rf_s, bz_0, bz_1, bz_ok, bb_ok, Nat.add_assoc, w_lt, w_add, w_sub, w_mul, w_div, em_def, w_eq, w_inT, ↓ilt_t, ↓ilt_f, ↓ieq_t, ↓ieq_f, ntT, w_b, w_ix, kx_v, kx_n, kl_n, kl_i, kl_r, kl_o, inA_i, inA_s, inA_b, inA_z, inA_l, inA_0, inA_4, inA_5, inA_6, inA_7, inA_8, inA_9, inA_10, al_0, al_1, al_2, al_4, al_5, al_98, bsP_2, bsP_3, wr_same, wr_wr, wr_ne, up_same, up_ne, Nat.reduceAdd, Int.reduceAdd, Int.reduceSub, Int.reduceMul, Int.reduceLT, Int.reduceLE, Int.reduceEq, Int.reduceNeg, Int.reduceToNat, Nat.reduceLT, Nat.reduceLeDiff, Nat.reduceEqDiff, ↓reduceIte, true_and, and_true, not_true_eq_false, not_false_eq_true, eq_self, or_true, true_or, or_false, false_or, if_true, if_false, Int.toNat_natCast, w_ite, Nat.add_zero, reduceCtorEq, ne_eq]
    | succ j ih =>
      intro n hn
      have h82 := fun {d : Nat} {Q : XO → Hp → Prop} => sp_82 (d := d) (Q := Q) (G := G) hV hR (n := (n : Int)) (by omega) (by omega)
      have hb := hf n
      have hc := cnt_le (fun n => decide (ffz rs n = z)) n
      rw [q_83_5]
      simp (disch := omega) only [q_83_0, q_83_1, q_83_2, q_83_3, q_83_7, q_83_8, q_83_11, q_83_12, q_83_14, q_83_17, q_83_18, q_83_21, q_83_24, q_83_27, q_83_30, q_83_31, q_83_e, va_rf_s, bz_0, bz_1, bz_ok, bb_ok, Nat.add_assoc, w_lt, w_add, w_sub, w_mul, w_div, em_def, w_eq, w_inT, ↓ilt_t, ↓ilt_f, ↓ieq_t, ↓ieq_f, ntT, w_b, w_ix, kx_v, kx_n, kl_n, kl_i, kl_r, kl_o, inA_i, inA_s, inA_b, inA_z, inA_l, inA_0, inA_4, inA_5, inA_6, inA_7, inA_8, inA_9, inA_10, al_0, al_1, al_2, al_4, al_5, al_98, bsP_2, bsP_3, wr_same, wr_wr, wr_ne, up_same, up_ne, Nat.reduceAdd, Int.reduceAdd, Int.reduceSub, Int.reduceMul, Int.reduceLT, Int.reduceLE, Int.reduceEq, Int.reduceNeg, Int.reduceToNat, Nat.reduceLT, Nat.reduceLeDiff, Nat.reduceEqDiff, ↓reduceIte, true_and, and_true, not_true_eq_false, not_false_eq_true, eq_self, or_true, true_or, or_false, false_or, if_true, if_false, Int.toNat_natCast, w_ite, Nat.add_zero, reduceCtorEq, ne_eq, hV.1, h82]
      have i1 := ih (n + 1) (by omega)
      rw [show cnt (fun n => decide (ffz rs n = z)) (n + 1) = cnt (fun n => decide (ffz rs n = z)) n + (if decide (ffz rs n = z) = true then 1 else 0) from rfl] at i1
      by_cases c : ffz rs n = z
      · rw [if_pos c]
        rw [if_pos (by rw [decide_eq_true c])] at i1
        simp only [Int.natCast_add, Int.natCast_one] at i1
        exact i1
      · rw [if_neg c]
        rw [if_neg (by rw [decide_eq_false c]; decide)] at i1
        simp only [Int.natCast_add, Int.natCast_one, Nat.add_zero] at i1
        exact i1
  have := lp (h + 1) 0 (by omega)
  simp only [cnt, Int.natCast_zero] at this
  simp (disch := omega) only [q_83_0, q_83_1, q_83_2, q_83_3, q_83_7, q_83_8, q_83_11, q_83_12, q_83_14, q_83_17, q_83_18, q_83_21, q_83_24, q_83_27, q_83_30, q_83_31, q_83_e, va_rf_s, bz_0, bz_1, bz_ok, bb_ok, Nat.add_assoc, w_lt, w_add, w_sub, w_mul, w_div, em_def, w_eq, w_inT, ↓ilt_t, ↓ilt_f, ↓ieq_t, ↓ieq_f, ntT, w_b, w_ix, kx_v, kx_n, kl_n, kl_i, kl_r, kl_o, inA_i, inA_s, inA_b, inA_z, inA_l, inA_0, inA_4, inA_5, inA_6, inA_7, inA_8, inA_9, inA_10, al_0, al_1, al_2, al_4, al_5, al_98, bsP_2, bsP_3, wr_same, wr_wr, wr_ne, up_same, up_ne, Nat.reduceAdd, Int.reduceAdd, Int.reduceSub, Int.reduceMul, Int.reduceLT, Int.reduceLE, Int.reduceEq, Int.reduceNeg, Int.reduceToNat, Nat.reduceLT, Nat.reduceLeDiff, Nat.reduceEqDiff, ↓reduceIte, true_and, and_true, not_true_eq_false, not_false_eq_true, eq_self, or_true, true_or, or_false, false_or, if_true, if_false, Int.toNat_natCast, w_ite, Nat.add_zero, reduceCtorEq, ne_eq]
  exact this
theorem sp_85 {h : Nat} (hV : VoiS S v) (hR : RsAt S I L R v rs) (hM : MInv rs I v) (hU : UInv rs I v) (hh : h ≤ 1000) (hQ : ∀ I' : MI, vp rs I I' v → (∀ n : Nat, n ≤ h → Kn I' v n) → Q (.inl none) (mk S I' L R G)) : XC (d + 68) 85 [.ref v, .int (w h)] (mk S I L R G) Q := by
  have lp : ∀ (j n : Nat) (I1 : MI), n + j = h + 1 → vp rs I I1 v → (∀ m : Nat, m < n → Kn I1 v m) → XX (d + 68) 85 2 [some (.ref v), some (.int (w h)), some (.int (w n))] [] (mk S I1 L R G) Q := by
    intro j
    induction j with
    | zero =>
      intro n I1 hn hp hk
      rw [q_85_2]
      simp (disch := omega) only [q_85_0, q_85_1, q_85_3, q_85_4, q_85_7, q_85_8, q_85_9, q_85_12, q_85_13, q_85_16, q_85_19, q_85_e, va_rf_s, bz_0, bz_1, bz_ok, bb_ok, Nat.add_assoc, w_lt, w_add, w_sub, w_mul, w_div, em_def, w_eq, w_inT, ↓ilt_t, ↓ilt_f, ↓ieq_t, ↓ieq_f, ntT, w_b, w_ix, kx_v, kx_n, kl_n, kl_i, kl_r, kl_o, inA_i, inA_s, inA_b, inA_z, inA_l, inA_0, inA_4, inA_5, inA_6, inA_7, inA_8, inA_9, inA_10, al_0, al_1, al_2, al_4, al_5, al_98, bsP_2, bsP_3, wr_same, wr_wr, wr_ne, up_same, up_ne, Nat.reduceAdd, Int.reduceAdd, Int.reduceSub, Int.reduceMul, Int.reduceLT, Int.reduceLE, Int.reduceEq, Int.reduceNeg, Int.reduceToNat, Nat.reduceLT, Nat.reduceLeDiff, Nat.reduceEqDiff, ↓reduceIte, true_and, and_true, not_true_eq_false, not_false_eq_true, eq_self, or_true, true_or, or_false, false_or, if_true, if_false, Int.toNat_natCast, w_ite, Nat.add_zero, reduceCtorEq, ne_eq]
      exact hQ I1 hp (fun m hm => hk m (by omega))
    | succ j ih =>
      intro n I1 hn hp hk
      rw [q_85_2]
      simp (disch := omega) only [q_85_0, q_85_1, q_85_3, q_85_4, q_85_7, q_85_8, q_85_9, q_85_12, q_85_13, q_85_16, q_85_19, q_85_e, va_rf_s, bz_0, bz_1, bz_ok, bb_ok, Nat.add_assoc, w_lt, w_add, w_sub, w_mul, w_div, em_def, w_eq, w_inT, ↓ilt_t, ↓ilt_f, ↓ieq_t, ↓ieq_f, ntT, w_b, w_ix, kx_v, kx_n, kl_n, kl_i, kl_r, kl_o, inA_i, inA_s, inA_b, inA_z, inA_l, inA_0, inA_4, inA_5, inA_6, inA_7, inA_8, inA_9, inA_10, al_0, al_1, al_2, al_4, al_5, al_98, bsP_2, bsP_3, wr_same, wr_wr, wr_ne, up_same, up_ne, Nat.reduceAdd, Int.reduceAdd, Int.reduceSub, Int.reduceMul, Int.reduceLT, Int.reduceLE, Int.reduceEq, Int.reduceNeg, Int.reduceToNat, Nat.reduceLT, Nat.reduceLeDiff, Nat.reduceEqDiff, ↓reduceIte, true_and, and_true, not_true_eq_false, not_false_eq_true, eq_self, or_true, true_or, or_false, false_or, if_true, if_false, Int.toNat_natCast, w_ite, Nat.add_zero, reduceCtorEq, ne_eq, hV.1]
      refine sp_84 hV (hR.congr hp.1 hp.2.1) hp.2.2.1 hp.2.2.2.1 (by omega) (by omega) (fun I2 hp2 hk2 => ?_)
      simp (disch := omega) only [q_85_0, q_85_1, q_85_3, q_85_4, q_85_7, q_85_8, q_85_9, q_85_12, q_85_13, q_85_16, q_85_19, q_85_e, va_rf_s, bz_0, bz_1, bz_ok, bb_ok, Nat.add_assoc, w_lt, w_add, w_sub, w_mul, w_div, em_def, w_eq, w_inT, ↓ilt_t, ↓ilt_f, ↓ieq_t, ↓ieq_f, ntT, w_b, w_ix, kx_v, kx_n, kl_n, kl_i, kl_r, kl_o, inA_i, inA_s, inA_b, inA_z, inA_l, inA_0, inA_4, inA_5, inA_6, inA_7, inA_8, inA_9, inA_10, al_0, al_1, al_2, al_4, al_5, al_98, bsP_2, bsP_3, wr_same, wr_wr, wr_ne, up_same, up_ne, Nat.reduceAdd, Int.reduceAdd, Int.reduceSub, Int.reduceMul, Int.reduceLT, Int.reduceLE, Int.reduceEq, Int.reduceNeg, Int.reduceToNat, Nat.reduceLT, Nat.reduceLeDiff, Nat.reduceEqDiff, ↓reduceIte, true_and, and_true, not_true_eq_false, not_false_eq_true, eq_self, or_true, true_or, or_false, false_or, if_true, if_false, Int.toNat_natCast, w_ite, Nat.add_zero, reduceCtorEq, ne_eq]
      have := ih (n + 1) I2 (by omega) (hp.trans hp2) (fun m hm => by
        by_cases c : m = n
        · subst c; exact hk2 (by omega) (by omega)
        · exact Kn_vp hp2 (by omega) (hk m (by omega)))
      simp only [Int.natCast_add, Int.natCast_one] at this
      exact this
  have := lp (h + 1) 0 I (by omega) (vp.refl hM hU) (fun m hm => by omega)
  simp only [Int.natCast_zero] at this
  simp (disch := omega) only [q_85_0, q_85_1, q_85_3, q_85_4, q_85_7, q_85_8, q_85_9, q_85_12, q_85_13, q_85_16, q_85_19, q_85_e, va_rf_s, bz_0, bz_1, bz_ok, bb_ok, Nat.add_assoc, w_lt, w_add, w_sub, w_mul, w_div, em_def, w_eq, w_inT, ↓ilt_t, ↓ilt_f, ↓ieq_t, ↓ieq_f, ntT, w_b, w_ix, kx_v, kx_n, kl_n, kl_i, kl_r, kl_o, inA_i, inA_s, inA_b, inA_z, inA_l, inA_0, inA_4, inA_5, inA_6, inA_7, inA_8, inA_9, inA_10, al_0, al_1, al_2, al_4, al_5, al_98, bsP_2, bsP_3, wr_same, wr_wr, wr_ne, up_same, up_ne, Nat.reduceAdd, Int.reduceAdd, Int.reduceSub, Int.reduceMul, Int.reduceLT, Int.reduceLE, Int.reduceEq, Int.reduceNeg, Int.reduceToNat, Nat.reduceLT, Nat.reduceLeDiff, Nat.reduceEqDiff, ↓reduceIte, true_and, and_true, not_true_eq_false, not_false_eq_true, eq_self, or_true, true_or, or_false, false_or, if_true, if_false, Int.toNat_natCast, w_ite, Nat.add_zero, reduceCtorEq, ne_eq]
  exact this
theorem sp_87 {n : Int} (hV : VoiS S v) (hR : RsAt S I L R v rs) (hM : MInv rs I v) (hU : UInv rs I v) (n1 : -2147483648 ≤ n) (n2 : n < 2147483648) (hQ : ∀ I' : MI, vp rs I I' v → ((cs rs n) ≠ [] → gi I' (v + 7) 4 = (cs rs n).length) → (∀ i, i < (cs rs n).length → crow I' (v + 7) i = (cs rs n).getD i c0) → Q (.inl (some (.int (w (cs rs n).length)))) (mk S I' L R G)) : XC (d + 67) 87 [.ref v, .int (w n)] (mk S I L R G) Q := by
  obtain ⟨g0, g1, g2, g3, g4, g5, g6, g7⟩ := id hV
  simp (disch := omega) only [q_87_0, q_87_1, q_87_2, q_87_5, q_87_6, q_87_7, q_87_10, q_87_11, q_87_14, q_87_15, q_87_18, q_87_19, q_87_20, q_87_21, q_87_24, q_87_27, q_87_28, q_87_31, q_87_32, q_87_35, q_87_38, q_87_e, va_rf_s, bz_0, bz_1, bz_ok, bb_ok, Nat.add_assoc, w_lt, w_add, w_sub, w_mul, w_div, em_def, w_eq, w_inT, ↓ilt_t, ↓ilt_f, ↓ieq_t, ↓ieq_f, ntT, w_b, w_ix, kx_v, kx_n, kl_n, kl_i, kl_r, kl_o, inA_i, inA_s, inA_b, inA_z, inA_l, inA_0, inA_4, inA_5, inA_6, inA_7, inA_8, inA_9, inA_10, al_0, al_1, al_2, al_4, al_5, al_98, bsP_2, bsP_3, wr_same, wr_wr, wr_ne, up_same, up_ne, Nat.reduceAdd, Int.reduceAdd, Int.reduceSub, Int.reduceMul, Int.reduceLT, Int.reduceLE, Int.reduceEq, Int.reduceNeg, Int.reduceToNat, Nat.reduceLT, Nat.reduceLeDiff, Nat.reduceEqDiff, ↓reduceIte, true_and, and_true, not_true_eq_false, not_false_eq_true, eq_self, or_true, true_or, or_false, false_or, if_true, if_false, Int.toNat_natCast, w_ite, Nat.add_zero, reduceCtorEq, ne_eq, g0, g2.1]
  have H : ∀ I1 : MI, (∀ a, a ≠ v → a ≠ v + 7 → I1 a = I a) → (∀ j, j ≠ 9 → j ≠ 10 → I1 v j = I v j) → I1 v 9 = w 0 → I1 v 10 = w 1 → XC (d + 66) 89 [.ref v, .int (w n), .int (w 0)] (mk S I1 L R G) (XK (d + 67) 87 21 [some (.ref v), some (.int (w n))] [] Q) := by
    intro I1 hI1 hI2 h9 h10
    have hb1 : ∀ k, ubit I1 v k = ubit I v k := fun k => by unfold ubit; rw [hI2 4 (by decide) (by decide)]
    have hM1 : MInv rs I1 v := hM.congr (hI1 _ (by omega) (by omega)) (hI1 _ (by omega) (by omega)) (hI1 _ (by omega) (by omega)) (hI1 _ (by omega) (by omega)) (hI1 _ (by omega) (by omega))
    have hU1 : UInv rs I1 v := hU.congr (fun k h => by rw [hb1]; exact h) (hI1 _ (by omega) (by omega)) (hI1 _ (by omega) (by omega))
    have hp1 : vp rs I I1 v := ⟨fun a ha => hI1 a (by omega) (by omega), hI2 3 (by decide) (by decide), hM1, hU1, fun s _ h => by rw [gi_congr (hI1 _ (by omega) (by omega))]; exact h, fun k h => by rw [hb1]; exact h⟩
    have g9 : gi I1 v 9 = 0 := gi_eq h9 (by decide) (by decide)
    refine sp_89 (rs := rs) hV 30 (d + 60) I1 0 n _ (by omega) rfl (hR.congr hp1.1 hp1.2.1) hM1 hU1 (Or.inr h10) (by omega) (by omega) (fun _ => g9) n1 n2 (by rw [opl_0]; exact chn_nil) (fun k _ _ => by rw [opl_0]; exact chn_nil) (fun o I2 hp hb ha => ?_)
    rw [opl_0, g9, if_pos rfl] at hb
    simp only [Int.add_zero] at hb
    have hp12 := hp1.trans hp.vp
    cases hS : say rs 30 [] 0 n with
    | inl y =>
      have hc : cs rs n = [] := by unfold cs; rw [hS]
      rw [hc] at hQ
      rw [hS] at hb
      obtain ⟨rfl, -⟩ := hb
      simp (disch := omega) only [q_87_0, q_87_1, q_87_2, q_87_5, q_87_6, q_87_7, q_87_10, q_87_11, q_87_14, q_87_15, q_87_18, q_87_19, q_87_20, q_87_21, q_87_24, q_87_27, q_87_28, q_87_31, q_87_32, q_87_35, q_87_38, q_87_e, va_rf_s, bz_0, bz_1, bz_ok, bb_ok, Nat.add_assoc, w_lt, w_add, w_sub, w_mul, w_div, em_def, w_eq, w_inT, ↓ilt_t, ↓ilt_f, ↓ieq_t, ↓ieq_f, ntT, w_b, w_ix, kx_v, kx_n, kl_n, kl_i, kl_r, kl_o, inA_i, inA_s, inA_b, inA_z, inA_l, inA_0, inA_4, inA_5, inA_6, inA_7, inA_8, inA_9, inA_10, al_0, al_1, al_2, al_4, al_5, al_98, bsP_2, bsP_3, wr_same, wr_wr, wr_ne, up_same, up_ne, Nat.reduceAdd, Int.reduceAdd, Int.reduceSub, Int.reduceMul, Int.reduceLT, Int.reduceLE, Int.reduceEq, Int.reduceNeg, Int.reduceToNat, Nat.reduceLT, Nat.reduceLeDiff, Nat.reduceEqDiff, ↓reduceIte, true_and, and_true, not_true_eq_false, not_false_eq_true, eq_self, or_true, true_or, or_false, false_or, if_true, if_false, Int.toNat_natCast, w_ite, Nat.add_zero, reduceCtorEq, ne_eq]
      exact hQ I2 hp12 (fun h => absurd rfl h) (fun i hi => nomatch hi)
    | inr l =>
      have hc : cs rs n = l := by unfold cs; rw [hS]
      rw [hc] at hQ
      rw [hS] at hb
      obtain ⟨rfl, hb⟩ := hb
      obtain ⟨hb1, hb2⟩ := hb h10
      have e4 : I2 (v + 7) 4 = w l.length := by rw [gi_w I2 (v + 7) 4, hb1]; simp
      simp (disch := omega) only [q_87_0, q_87_1, q_87_2, q_87_5, q_87_6, q_87_7, q_87_10, q_87_11, q_87_14, q_87_15, q_87_18, q_87_19, q_87_20, q_87_21, q_87_24, q_87_27, q_87_28, q_87_31, q_87_32, q_87_35, q_87_38, q_87_e, va_rf_s, bz_0, bz_1, bz_ok, bb_ok, Nat.add_assoc, w_lt, w_add, w_sub, w_mul, w_div, em_def, w_eq, w_inT, ↓ilt_t, ↓ilt_f, ↓ieq_t, ↓ieq_f, ntT, w_b, w_ix, kx_v, kx_n, kl_n, kl_i, kl_r, kl_o, inA_i, inA_s, inA_b, inA_z, inA_l, inA_0, inA_4, inA_5, inA_6, inA_7, inA_8, inA_9, inA_10, al_0, al_1, al_2, al_4, al_5, al_98, bsP_2, bsP_3, wr_same, wr_wr, wr_ne, up_same, up_ne, Nat.reduceAdd, Int.reduceAdd, Int.reduceSub, Int.reduceMul, Int.reduceLT, Int.reduceLE, Int.reduceEq, Int.reduceNeg, Int.reduceToNat, Nat.reduceLT, Nat.reduceLeDiff, Nat.reduceEqDiff, ↓reduceIte, true_and, and_true, not_true_eq_false, not_false_eq_true, eq_self, or_true, true_or, or_false, false_or, if_true, if_false, Int.toNat_natCast, w_ite, Nat.add_zero, reduceCtorEq, ne_eq, g0, g2.1, e4]
      exact hQ I2 hp12 (fun _ => by rw [hb1]; simp) (fun i hi => by have := hb2 i hi; rw [Nat.zero_add] at this; exact this)
  refine H _ (fun a h1 h2 => ?_) (fun j h1 h2 => ?_) ?_ ?_
  · simp (disch := omega) only [wr_ne]
  · simp (disch := omega) only [wr_ne, wr_same, up_ne]
  · simp (disch := omega) only [wr_ne, wr_same, up_ne, up_same]
  · simp (disch := omega) only [wr_ne, wr_same, up_ne, up_same]
/-- two voices compared, up to enough -/
theorem sp_88 {u h en : Nat} {rs' : List Rl} (hV : VoiS S v) (hV' : VoiS S u) (huv : v + 17 ≤ u ∨ u + 17 ≤ v) (hR : RsAt S I L R v rs) (hR' : RsAt S I L R u rs') (hM : MInv rs I v) (hU : UInv rs I v) (hM' : MInv rs' I u) (hU' : UInv rs' I u) (hh : h ≤ 1000) (he : en ≤ 1002)
    (hRr : ∀ I' : MI, (∀ a, (a < v ∨ v + 17 ≤ a) → (a < u ∨ u + 17 ≤ a) → I' a = I a) → I' v 3 = I v 3 → I' u 3 = I u 3 → RsAt S I' L R v rs ∧ RsAt S I' L R u rs')
    (hQ : ∀ I' : MI, (∀ a, (a < v ∨ v + 17 ≤ a) → (a < u ∨ u + 17 ≤ a) → I' a = I a) → (∃ I1 : MI, vp rs I I1 v ∧ ∀ a, v ≤ a → a < v + 17 → I' a = I1 a) → (∃ I1 : MI, vp rs' I I1 u ∧ ∀ a, u ≤ a → a < u + 17 → I' a = I1 a) → Q (.inl (some (.int (w (min (cnt (fun n => !decide (T rs n = T rs' n)) (h + 1)) en : Nat))))) (mk S I' L R G)) :
    XC (d + 68) 88 [.ref v, .ref u, .int (w h), .int (w en)] (mk S I L R G) Q := by
  obtain ⟨g0, g1, -⟩ := id hV
  obtain ⟨g0', g1', -⟩ := id hV'
  have lp : ∀ (j n : Nat) (I1 Iv Iu : MI) (o : Option Value), n + j = h + 1 → cnt (fun n => !decide (T rs n = T rs' n)) n ≤ en → (∀ a, (a < v ∨ v + 17 ≤ a) → (a < u ∨ u + 17 ≤ a) → I1 a = I a) → vp rs I Iv v → (∀ a, v ≤ a → a < v + 17 → I1 a = Iv a) → vp rs' I Iu u → (∀ a, u ≤ a → a < u + 17 → I1 a = Iu a) → XX (d + 68) 88 6 [some (.ref v), some (.ref u), some (.int (w h)), some (.int (w en)), some (.int (w (cnt (fun n => !decide (T rs n = T rs' n)) n))), some (.int (w n)), o] [] (mk S I1 L R G) Q := by
    intro j
    induction j with
    | zero =>
      intro n I1 Iv Iu o hn hc hf hv ev hu eu
      have : n = h + 1 := by omega
      subst this
      rw [q_88_6]
      simp (disch := omega) only [q_88_0, q_88_1, q_88_3, q_88_4, q_88_8, q_88_9, q_88_12, q_88_14, q_88_15, q_88_18, q_88_19, q_88_21, q_88_24, q_88_25, q_88_27, q_88_30, q_88_33, q_88_34, q_88_37, q_88_38, q_88_40, q_88_42, q_88_45, q_88_46, q_88_49, q_88_50, q_88_53, q_88_55, q_88_58, q_88_61, q_88_64, q_88_67, q_88_70, q_88_72, q_88_e, va_rf_s, bz_0, bz_1, bz_ok, bb_ok, Nat.add_assoc, w_lt, w_add, w_sub, w_mul, w_div, em_def, w_eq, w_inT, ↓ilt_t, ↓ilt_f, ↓ieq_t, ↓ieq_f, ntT, w_b, w_ix, kx_v, kx_n, kl_n, kl_i, kl_r, kl_o, inA_i, inA_s, inA_b, inA_z, inA_l, inA_0, inA_4, inA_5, inA_6, inA_7, inA_8, inA_9, inA_10, al_0, al_1, al_2, al_4, al_5, al_98, bsP_2, bsP_3, wr_same, wr_wr, wr_ne, up_same, up_ne, Nat.reduceAdd, Int.reduceAdd, Int.reduceSub, Int.reduceMul, Int.reduceLT, Int.reduceLE, Int.reduceEq, Int.reduceNeg, Int.reduceToNat, Nat.reduceLT, Nat.reduceLeDiff, Nat.reduceEqDiff, ↓reduceIte, true_and, and_true, not_true_eq_false, not_false_eq_true, eq_self, or_true, true_or, or_false, false_or, if_true, if_false, Int.toNat_natCast, w_ite, Nat.add_zero, reduceCtorEq, ne_eq]
      have := hQ I1 hf ⟨Iv, hv, ev⟩ ⟨Iu, hu, eu⟩
      rw [Nat.min_eq_left hc] at this
      exact this
    | succ j ih =>
      intro n I1 Iv Iu o hn hc hf hv ev hu eu
      have hcl := cnt_le (fun n => !decide (T rs n = T rs' n)) n
      rw [q_88_6]
      by_cases c : cnt (fun n => !decide (T rs n = T rs' n)) n = en
      · simp (disch := omega) only [q_88_0, q_88_1, q_88_3, q_88_4, q_88_8, q_88_9, q_88_12, q_88_14, q_88_15, q_88_18, q_88_19, q_88_21, q_88_24, q_88_25, q_88_27, q_88_30, q_88_33, q_88_34, q_88_37, q_88_38, q_88_40, q_88_42, q_88_45, q_88_46, q_88_49, q_88_50, q_88_53, q_88_55, q_88_58, q_88_61, q_88_64, q_88_67, q_88_70, q_88_72, q_88_e, va_rf_s, bz_0, bz_1, bz_ok, bb_ok, Nat.add_assoc, w_lt, w_add, w_sub, w_mul, w_div, em_def, w_eq, w_inT, ↓ilt_t, ↓ilt_f, ↓ieq_t, ↓ieq_f, ntT, w_b, w_ix, kx_v, kx_n, kl_n, kl_i, kl_r, kl_o, inA_i, inA_s, inA_b, inA_z, inA_l, inA_0, inA_4, inA_5, inA_6, inA_7, inA_8, inA_9, inA_10, al_0, al_1, al_2, al_4, al_5, al_98, bsP_2, bsP_3, wr_same, wr_wr, wr_ne, up_same, up_ne, Nat.reduceAdd, Int.reduceAdd, Int.reduceSub, Int.reduceMul, Int.reduceLT, Int.reduceLE, Int.reduceEq, Int.reduceNeg, Int.reduceToNat, Nat.reduceLT, Nat.reduceLeDiff, Nat.reduceEqDiff, ↓reduceIte, true_and, and_true, not_true_eq_false, not_false_eq_true, eq_self, or_true, true_or, or_false, false_or, if_true, if_false, Int.toNat_natCast, w_ite, Nat.add_zero, reduceCtorEq, ne_eq]
        have := hQ I1 hf ⟨Iv, hv, ev⟩ ⟨Iu, hu, eu⟩
        have hm := cnt_mono (fun n => !decide (T rs n = T rs' n)) (show n ≤ h + 1 by omega)
        rw [Nat.min_eq_right (by omega), ← c] at this
        exact this
      · simp (disch := omega) only [q_88_0, q_88_1, q_88_3, q_88_4, q_88_8, q_88_9, q_88_12, q_88_14, q_88_15, q_88_18, q_88_19, q_88_21, q_88_24, q_88_25, q_88_27, q_88_30, q_88_33, q_88_34, q_88_37, q_88_38, q_88_40, q_88_42, q_88_45, q_88_46, q_88_49, q_88_50, q_88_53, q_88_55, q_88_58, q_88_61, q_88_64, q_88_67, q_88_70, q_88_72, q_88_e, va_rf_s, bz_0, bz_1, bz_ok, bb_ok, Nat.add_assoc, w_lt, w_add, w_sub, w_mul, w_div, em_def, w_eq, w_inT, ↓ilt_t, ↓ilt_f, ↓ieq_t, ↓ieq_f, ntT, w_b, w_ix, kx_v, kx_n, kl_n, kl_i, kl_r, kl_o, inA_i, inA_s, inA_b, inA_z, inA_l, inA_0, inA_4, inA_5, inA_6, inA_7, inA_8, inA_9, inA_10, al_0, al_1, al_2, al_4, al_5, al_98, bsP_2, bsP_3, wr_same, wr_wr, wr_ne, up_same, up_ne, Nat.reduceAdd, Int.reduceAdd, Int.reduceSub, Int.reduceMul, Int.reduceLT, Int.reduceLE, Int.reduceEq, Int.reduceNeg, Int.reduceToNat, Nat.reduceLT, Nat.reduceLeDiff, Nat.reduceEqDiff, ↓reduceIte, true_and, and_true, not_true_eq_false, not_false_eq_true, eq_self, or_true, true_or, or_false, false_or, if_true, if_false, Int.toNat_natCast, w_ite, Nat.add_zero, reduceCtorEq, ne_eq, g0]
        obtain ⟨b1, b2, b3, b4, b5⟩ := hv.congr ev
        obtain ⟨b1', b2', b3', b4', b5'⟩ := hu.congr eu
        have hRR := hRr I1 hf b1 b1'
        refine sp_84 hV hRR.1 b2 b3 (by omega) (by omega) (fun I2 hp2 hk2 => ?_)
        have hk2 := hk2 (by omega) (by omega)
        have e2 : ∀ a, u ≤ a → a < u + 17 → I2 a = I1 a := fun a h1 h2 => hp2.1 a (by omega)
        obtain ⟨d1, d2, d3, -⟩ := (vp.refl b2' b3').congr (rs := rs') (I := I1) e2
        have hRR2 := hRr I2 (fun a h1 h2 => (hp2.1 a h1).trans (hf a h1 h2)) (hp2.2.1.trans b1) (d1.trans b1')
        simp (disch := omega) only [q_88_0, q_88_1, q_88_3, q_88_4, q_88_8, q_88_9, q_88_12, q_88_14, q_88_15, q_88_18, q_88_19, q_88_21, q_88_24, q_88_25, q_88_27, q_88_30, q_88_33, q_88_34, q_88_37, q_88_38, q_88_40, q_88_42, q_88_45, q_88_46, q_88_49, q_88_50, q_88_53, q_88_55, q_88_58, q_88_61, q_88_64, q_88_67, q_88_70, q_88_72, q_88_e, va_rf_s, bz_0, bz_1, bz_ok, bb_ok, Nat.add_assoc, w_lt, w_add, w_sub, w_mul, w_div, em_def, w_eq, w_inT, ↓ilt_t, ↓ilt_f, ↓ieq_t, ↓ieq_f, ntT, w_b, w_ix, kx_v, kx_n, kl_n, kl_i, kl_r, kl_o, inA_i, inA_s, inA_b, inA_z, inA_l, inA_0, inA_4, inA_5, inA_6, inA_7, inA_8, inA_9, inA_10, al_0, al_1, al_2, al_4, al_5, al_98, bsP_2, bsP_3, wr_same, wr_wr, wr_ne, up_same, up_ne, Nat.reduceAdd, Int.reduceAdd, Int.reduceSub, Int.reduceMul, Int.reduceLT, Int.reduceLE, Int.reduceEq, Int.reduceNeg, Int.reduceToNat, Nat.reduceLT, Nat.reduceLeDiff, Nat.reduceEqDiff, ↓reduceIte, true_and, and_true, not_true_eq_false, not_false_eq_true, eq_self, or_true, true_or, or_false, false_or, if_true, if_false, Int.toNat_natCast, w_ite, Nat.add_zero, reduceCtorEq, ne_eq, g0']
        refine sp_84 hV' hRR2.2 d2 d3 (by omega) (by omega) (fun I3 hp3 hk3 => ?_)
        have hk3 := hk3 (by omega) (by omega)
        have e3 : ∀ a, v ≤ a → a < v + 17 → I3 a = I2 a := fun a h1 h2 => hp3.1 a (by omega)
        obtain ⟨f1, f2, f3, -⟩ := (vp.refl hp2.2.2.1 hp2.2.2.2.1).congr (rs := rs) (I := I2) e3
        have hk2' : Kn I3 v n := Kn_congr (e3 _ (by omega) (by omega)) hk2
        have s40 := fun (hbo : (sd rs n).isSome = (sd rs' n).isSome) {d : Nat} {Q : XO → Hp → Prop} => sp_40 (d := d) (Q := Q) (I := I3) (L := L) (R := R) (G := G) g1 g1' (n := (n : Int)) (by omega) (by omega) f2 hp3.2.2.1 hRR.1.ok hRR.2.ok hk2' hk3 hbo
        -- the chains of each voice
        have hv3 : ∃ Iv' : MI, vp rs I Iv' v ∧ ∀ a, v ≤ a → a < v + 17 → I3 a = Iv' a := by
          refine ⟨fun a => if v ≤ a ∧ a < v + 17 then I3 a else I a, ?_, fun a h1 h2 => by dsimp only; rw [if_pos ⟨h1, h2⟩]⟩
          obtain ⟨m1, m2, m3, m4, m5⟩ := (vp.refl hp2.2.2.1 hp2.2.2.2.1).congr (rs := rs) (I := I2) (I2 := fun a => if v ≤ a ∧ a < v + 17 then I3 a else I a) (fun a h1 h2 => by rw [if_pos ⟨h1, h2⟩]; exact e3 a h1 h2)
          exact ⟨fun a ha => by dsimp only; rw [if_neg (by omega)], m1.trans (hp2.2.1.trans b1), m2, m3, fun s hs h => m4 s hs (hp2.2.2.2.2.1 s hs (b4 s hs h)), fun k h => m5 k (hp2.2.2.2.2.2 k (b5 k h))⟩
        have hu3 : ∃ Iu' : MI, vp rs' I Iu' u ∧ ∀ a, u ≤ a → a < u + 17 → I3 a = Iu' a := by
          refine ⟨fun a => if u ≤ a ∧ a < u + 17 then I3 a else I a, ?_, fun a h1 h2 => by dsimp only; rw [if_pos ⟨h1, h2⟩]⟩
          obtain ⟨m1, m2, m3, m4, m5⟩ := (vp.refl hp3.2.2.1 hp3.2.2.2.1).congr (rs := rs') (I := I3) (I2 := fun a => if u ≤ a ∧ a < u + 17 then I3 a else I a) (fun a h1 h2 => by rw [if_pos ⟨h1, h2⟩])
          refine ⟨fun a ha => by dsimp only; rw [if_neg (by omega)], m1.trans (hp3.2.1.trans (d1.trans b1')), m2, m3, fun s hs h => m4 s hs (hp3.2.2.2.2.1 s hs ?_), fun k h => m5 k (hp3.2.2.2.2.2 k ?_)⟩
          · rw [gi_congr (e2 _ (by omega) (by omega))]; exact b4' s hs h
          · unfold ubit; rw [e2 u (by omega) (by omega)]; exact b5' k h
        obtain ⟨Iv', hv3, ev3⟩ := hv3
        obtain ⟨Iu', hu3, eu3⟩ := hu3
        have hf3 : ∀ a, (a < v ∨ v + 17 ≤ a) → (a < u ∨ u + 17 ≤ a) → I3 a = I a := fun a h1 h2 => (hp3.1 a h2).trans ((hp2.1 a h1).trans (hf a h1 h2))
        have i1 := fun o => ih (n + 1) I3 Iv' Iu' o (by omega)
        rw [show cnt (fun n => !decide (T rs n = T rs' n)) (n + 1) = cnt (fun n => !decide (T rs n = T rs' n)) n + (if (!decide (T rs n = T rs' n)) = true then 1 else 0) from rfl] at i1
        have iT : T rs n = T rs' n → ∀ o, XX (d + 68) 88 6 [some (.ref v), some (.ref u), some (.int (w h)), some (.int (w en)), some (.int (w (cnt (fun n => !decide (T rs n = T rs' n)) n))), some (.int (w ((n : Int) + 1))), o] [] (mk S I3 L R G) Q := fun e o => by
          have := i1 o
          rw [if_neg (by rw [decide_eq_true e]; decide), Nat.add_zero] at this
          simp only [Int.natCast_add, Int.natCast_one] at this
          exact this hc hf3 hv3 ev3 hu3 eu3
        have iF : ¬ T rs n = T rs' n → ∀ o, XX (d + 68) 88 6 [some (.ref v), some (.ref u), some (.int (w h)), some (.int (w en)), some (.int (w (cnt (fun n => !decide (T rs n = T rs' n)) n + 1))), some (.int (w ((n : Int) + 1))), o] [] (mk S I3 L R G) Q := fun e o => by
          have := i1 o
          rw [if_pos (by rw [decide_eq_false e]; rfl)] at this
          simp only [Int.natCast_add, Int.natCast_one] at this
          exact this (by omega) hf3 hv3 ev3 hu3 eu3
        cases q1 : sd rs n with
        | none =>
          have t1 : T rs n = none := by unfold T; rw [q1]; rfl
          cases q2 : sd rs' n with
          | none =>
            have t2 : T rs' n = none := by unfold T; rw [q2]; rfl
            have s40 := fun {d : Nat} {Q : XO → Hp → Prop} => s40 (by rw [q1, q2]; first | done | rfl) (d := d) (Q := Q)
            rw [t1, t2, decide_eq_true rfl] at s40
            simp (disch := omega) only [q_88_0, q_88_1, q_88_3, q_88_4, q_88_8, q_88_9, q_88_12, q_88_14, q_88_15, q_88_18, q_88_19, q_88_21, q_88_24, q_88_25, q_88_27, q_88_30, q_88_33, q_88_34, q_88_37, q_88_38, q_88_40, q_88_42, q_88_45, q_88_46, q_88_49, q_88_50, q_88_53, q_88_55, q_88_58, q_88_61, q_88_64, q_88_67, q_88_70, q_88_72, q_88_e, va_rf_s, bz_0, bz_1, bz_ok, bb_ok, Nat.add_assoc, w_lt, w_add, w_sub, w_mul, w_div, em_def, w_eq, w_inT, ↓ilt_t, ↓ilt_f, ↓ieq_t, ↓ieq_f, ntT, w_b, w_ix, kx_v, kx_n, kl_n, kl_i, kl_r, kl_o, inA_i, inA_s, inA_b, inA_z, inA_l, inA_0, inA_4, inA_5, inA_6, inA_7, inA_8, inA_9, inA_10, al_0, al_1, al_2, al_4, al_5, al_98, bsP_2, bsP_3, wr_same, wr_wr, wr_ne, up_same, up_ne, Nat.reduceAdd, Int.reduceAdd, Int.reduceSub, Int.reduceMul, Int.reduceLT, Int.reduceLE, Int.reduceEq, Int.reduceNeg, Int.reduceToNat, Nat.reduceLT, Nat.reduceLeDiff, Nat.reduceEqDiff, ↓reduceIte, true_and, and_true, not_true_eq_false, not_false_eq_true, eq_self, or_true, true_or, or_false, false_or, if_true, if_false, Int.toNat_natCast, w_ite, Nat.add_zero, reduceCtorEq, ne_eq, Option.isSome_none, g0, g0', g1.1, bz_t, bz_f, s40]
            exact iT (t1.trans t2.symm) _
          | some y =>
            have t2 : T rs' n = some y.1 := by unfold T; rw [q2]; rfl
            simp (disch := omega) only [q_88_0, q_88_1, q_88_3, q_88_4, q_88_8, q_88_9, q_88_12, q_88_14, q_88_15, q_88_18, q_88_19, q_88_21, q_88_24, q_88_25, q_88_27, q_88_30, q_88_33, q_88_34, q_88_37, q_88_38, q_88_40, q_88_42, q_88_45, q_88_46, q_88_49, q_88_50, q_88_53, q_88_55, q_88_58, q_88_61, q_88_64, q_88_67, q_88_70, q_88_72, q_88_e, va_rf_s, bz_0, bz_1, bz_ok, bb_ok, Nat.add_assoc, w_lt, w_add, w_sub, w_mul, w_div, em_def, w_eq, w_inT, ↓ilt_t, ↓ilt_f, ↓ieq_t, ↓ieq_f, ntT, w_b, w_ix, kx_v, kx_n, kl_n, kl_i, kl_r, kl_o, inA_i, inA_s, inA_b, inA_z, inA_l, inA_0, inA_4, inA_5, inA_6, inA_7, inA_8, inA_9, inA_10, al_0, al_1, al_2, al_4, al_5, al_98, bsP_2, bsP_3, wr_same, wr_wr, wr_ne, up_same, up_ne, Nat.reduceAdd, Int.reduceAdd, Int.reduceSub, Int.reduceMul, Int.reduceLT, Int.reduceLE, Int.reduceEq, Int.reduceNeg, Int.reduceToNat, Nat.reduceLT, Nat.reduceLeDiff, Nat.reduceEqDiff, ↓reduceIte, true_and, and_true, not_true_eq_false, not_false_eq_true, eq_self, or_true, true_or, or_false, false_or, if_true, if_false, Int.toNat_natCast, w_ite, Nat.add_zero, reduceCtorEq, ne_eq, Option.isSome_none, Option.isSome_some, g0, g0', g1.1, bz_t, bz_f]
            exact iF (fun e => by rw [t1, t2] at e; cases e) _
        | some x =>
          have t1 : T rs n = some x.1 := by unfold T; rw [q1]; rfl
          cases q2 : sd rs' n with
          | none =>
            have t2 : T rs' n = none := by unfold T; rw [q2]; rfl
            simp (disch := omega) only [q_88_0, q_88_1, q_88_3, q_88_4, q_88_8, q_88_9, q_88_12, q_88_14, q_88_15, q_88_18, q_88_19, q_88_21, q_88_24, q_88_25, q_88_27, q_88_30, q_88_33, q_88_34, q_88_37, q_88_38, q_88_40, q_88_42, q_88_45, q_88_46, q_88_49, q_88_50, q_88_53, q_88_55, q_88_58, q_88_61, q_88_64, q_88_67, q_88_70, q_88_72, q_88_e, va_rf_s, bz_0, bz_1, bz_ok, bb_ok, Nat.add_assoc, w_lt, w_add, w_sub, w_mul, w_div, em_def, w_eq, w_inT, ↓ilt_t, ↓ilt_f, ↓ieq_t, ↓ieq_f, ntT, w_b, w_ix, kx_v, kx_n, kl_n, kl_i, kl_r, kl_o, inA_i, inA_s, inA_b, inA_z, inA_l, inA_0, inA_4, inA_5, inA_6, inA_7, inA_8, inA_9, inA_10, al_0, al_1, al_2, al_4, al_5, al_98, bsP_2, bsP_3, wr_same, wr_wr, wr_ne, up_same, up_ne, Nat.reduceAdd, Int.reduceAdd, Int.reduceSub, Int.reduceMul, Int.reduceLT, Int.reduceLE, Int.reduceEq, Int.reduceNeg, Int.reduceToNat, Nat.reduceLT, Nat.reduceLeDiff, Nat.reduceEqDiff, ↓reduceIte, true_and, and_true, not_true_eq_false, not_false_eq_true, eq_self, or_true, true_or, or_false, false_or, if_true, if_false, Int.toNat_natCast, w_ite, Nat.add_zero, reduceCtorEq, ne_eq, Option.isSome_none, Option.isSome_some, g0, g0', g1.1, bz_t, bz_f]
            exact iF (fun e => by rw [t1, t2] at e; cases e) _
          | some y =>
            have s40 := fun {d : Nat} {Q : XO → Hp → Prop} => s40 (by rw [q1, q2]; first | done | rfl) (d := d) (Q := Q)
            simp (disch := omega) only [q_88_0, q_88_1, q_88_3, q_88_4, q_88_8, q_88_9, q_88_12, q_88_14, q_88_15, q_88_18, q_88_19, q_88_21, q_88_24, q_88_25, q_88_27, q_88_30, q_88_33, q_88_34, q_88_37, q_88_38, q_88_40, q_88_42, q_88_45, q_88_46, q_88_49, q_88_50, q_88_53, q_88_55, q_88_58, q_88_61, q_88_64, q_88_67, q_88_70, q_88_72, q_88_e, va_rf_s, bz_0, bz_1, bz_ok, bb_ok, Nat.add_assoc, w_lt, w_add, w_sub, w_mul, w_div, em_def, w_eq, w_inT, ↓ilt_t, ↓ilt_f, ↓ieq_t, ↓ieq_f, ntT, w_b, w_ix, kx_v, kx_n, kl_n, kl_i, kl_r, kl_o, inA_i, inA_s, inA_b, inA_z, inA_l, inA_0, inA_4, inA_5, inA_6, inA_7, inA_8, inA_9, inA_10, al_0, al_1, al_2, al_4, al_5, al_98, bsP_2, bsP_3, wr_same, wr_wr, wr_ne, up_same, up_ne, Nat.reduceAdd, Int.reduceAdd, Int.reduceSub, Int.reduceMul, Int.reduceLT, Int.reduceLE, Int.reduceEq, Int.reduceNeg, Int.reduceToNat, Nat.reduceLT, Nat.reduceLeDiff, Nat.reduceEqDiff, ↓reduceIte, true_and, and_true, not_true_eq_false, not_false_eq_true, eq_self, or_true, true_or, or_false, false_or, if_true, if_false, Int.toNat_natCast, w_ite, Nat.add_zero, reduceCtorEq, ne_eq, Option.isSome_none, Option.isSome_some, g0, g0', g1.1, bz_t, bz_f, s40]
            by_cases e : T rs n = T rs' n
            · rw [if_neg (by rw [decide_eq_true e]; decide)]
              exact iT e _
            · rw [if_pos (by rw [decide_eq_false e])]
              exact iF e _
  have := lp (h + 1) 0 I I I none (by omega) (Nat.zero_le _) (fun _ _ _ => rfl) (vp.refl hM hU) (fun _ _ _ => rfl) (vp.refl hM' hU') (fun _ _ _ => rfl)
  simp only [cnt, Int.natCast_zero] at this
  simp (disch := omega) only [q_88_0, q_88_1, q_88_3, q_88_4, q_88_8, q_88_9, q_88_12, q_88_14, q_88_15, q_88_18, q_88_19, q_88_21, q_88_24, q_88_25, q_88_27, q_88_30, q_88_33, q_88_34, q_88_37, q_88_38, q_88_40, q_88_42, q_88_45, q_88_46, q_88_49, q_88_50, q_88_53, q_88_55, q_88_58, q_88_61, q_88_64, q_88_67, q_88_70, q_88_72, q_88_e, va_rf_s, bz_0, bz_1, bz_ok, bb_ok, Nat.add_assoc, w_lt, w_add, w_sub, w_mul, w_div, em_def, w_eq, w_inT, ↓ilt_t, ↓ilt_f, ↓ieq_t, ↓ieq_f, ntT, w_b, w_ix, kx_v, kx_n, kl_n, kl_i, kl_r, kl_o, inA_i, inA_s, inA_b, inA_z, inA_l, inA_0, inA_4, inA_5, inA_6, inA_7, inA_8, inA_9, inA_10, al_0, al_1, al_2, al_4, al_5, al_98, bsP_2, bsP_3, wr_same, wr_wr, wr_ne, up_same, up_ne, Nat.reduceAdd, Int.reduceAdd, Int.reduceSub, Int.reduceMul, Int.reduceLT, Int.reduceLE, Int.reduceEq, Int.reduceNeg, Int.reduceToNat, Nat.reduceLT, Nat.reduceLeDiff, Nat.reduceEqDiff, ↓reduceIte, true_and, and_true, not_true_eq_false, not_false_eq_true, eq_self, or_true, true_or, or_false, false_or, if_true, if_false, Int.toNat_natCast, w_ite, Nat.add_zero, reduceCtorEq, ne_eq]
  exact this
end

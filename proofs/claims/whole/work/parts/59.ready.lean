/-! the ranking made ready -/
def RsLo (R : MR) (v lo : Nat) (rs : List Rl) : Prop := ∀ i, i < rs.length → ∀ r, R (v + 12) i = some r → lo ≤ r
theorem RsAt.congr' {S : SH} {I I' : MI} {L : ML} {R : MR} {v lo : Nat} {rs : List Rl} (h : RsAt S I L R v rs) (hl : RsLo R v lo rs) (e : ∀ a, lo ≤ a → I' a = I a) (e3 : I' v 3 = I v 3) : RsAt S I' L R v rs := by
  refine ⟨e3.trans h.1, h.2.1, fun i hi => ?_⟩
  obtain ⟨r, h1, h2, h3⟩ := h.2.2 i hi
  have := hl i hi r h1
  exact ⟨r, h1, h2, h3.congr (e _ (by omega)) (e _ (by omega)) (e _ (by omega))⟩
def vq (rs : List Rl) (I I' : MI) (v : Nat) : Prop := I' v 3 = I v 3 ∧ MInv rs I' v ∧ UInv rs I' v ∧ (∀ s : Nat, s ≤ 1000 → gi I (v + 3) s = s → gi I' (v + 3) s = s) ∧ (∀ k, ubit I v k = true → ubit I' v k = true)
theorem vp.vq {rs : List Rl} {I I' : MI} {v : Nat} (h : vp rs I I' v) : vq rs I I' v := h.congr (fun _ _ _ => rfl)
theorem vq.trans {rs : List Rl} {I I1 I2 : MI} {v : Nat} (h : vq rs I I1 v) (h' : vq rs I1 I2 v) : vq rs I I2 v := by
  obtain ⟨a1, a2, a3, a4, a5⟩ := h
  obtain ⟨b1, b2, b3, b4, b5⟩ := h'
  exact ⟨b1.trans a1, b2, b3, fun s hs h => b4 s hs (a4 s hs h), fun k h => b5 k (a5 k h)⟩
theorem vq.refl {rs : List Rl} {I : MI} {v : Nat} (hM : MInv rs I v) (hU : UInv rs I v) : vq rs I I v := ⟨rfl, hM, hU, fun _ _ h => h, fun _ h => h⟩
theorem vq.same {rs : List Rl} {I I' : MI} {v : Nat} (hM : MInv rs I v) (hU : UInv rs I v) (e : ∀ a, v ≤ a → a < v + 17 → I' a = I a) : vq rs I I' v := (vp.refl hM hU).congr e
theorem vq.tail {rs : List Rl} {I I1 I2 : MI} {v : Nat} (h : vq rs I I1 v) (e : ∀ a, v ≤ a → a < v + 17 → I2 a = I1 a) : vq rs I I2 v := h.trans (vq.same h.2.1 h.2.2.1 e)
theorem Kn_vq {rs : List Rl} {I I' : MI} {v n : Nat} (h : vq rs I I' v) (hn : n ≤ 1000) (hk : Kn I v n) : Kn I' v n := by
  unfold Kn at hk ⊢
  rw [sl_small (by omega) (by omega)] at hk ⊢
  exact h.2.2.2.1 n hn hk
/-- the ranking has the order of the numbers up to p -/
def Ready (rs : List Rl) (I : MI) (k p : Nat) : Prop := I k 3 = w (ordl rs p).length ∧ Txt (I (k + 18)) 0 (zl (ordl rs p)) ∧ ∀ n ∈ ordl rs p, Kn I (k + 1) n
def RankOk (rs : List Rl) (I : MI) (k : Nat) : Prop := I k 4 = w (-1) ∨ ∃ p : Nat, p ≤ 1000 ∧ I k 4 = w p ∧ Ready rs I k p
theorem Ready.sd {rs : List Rl} {I : MI} {k p n : Nat} (h : Ready rs I k p) (hp : p ≤ 1000) (hM : MInv rs I (k + 1)) (hr : rsOk rs) (hn : n ∈ ordl rs p) : n ≤ 1000 ∧ Sd I (k + 1) n (tx rs n) := by
  have hm := ordl_mem.mp hn
  obtain ⟨t, ht⟩ := Option.isSome_iff_exists.mp hm.2
  have e : tx rs n = t := by unfold tx; rw [ht]; rfl
  exact ⟨by omega, by rw [e]; exact Kn.Sd hM hr (h.2.2 n hn) (by omega) ht⟩
theorem Ready.keep {rs : List Rl} {I I' : MI} {k p : Nat} (h : Ready rs I k p) (hp : p ≤ 1000) (e1 : I' k 3 = I k 3) (e2 : I' (k + 18) = I (k + 18)) (hq : vq rs I I' (k + 1)) : Ready rs I' k p := by
  refine ⟨e1.trans h.1, by rw [e2]; exact h.2.1, fun n hn => Kn_vq hq ?_ (h.2.2 n hn)⟩
  have := (ordl_mem.mp hn).1; omega
section
variable {d : Nat} {Q : XO → Hp → Prop} {S : SH} {I : MI} {L : ML} {R : MR} {G : MG} {A : Hp}
variable {k : Nat} {rs : List Rl}
theorem sp_43 {h : Nat} (hK : RankS S k) (hR : RsAt S I L R (k + 1) rs) (hl : RsLo R (k + 1) (k + 20) rs) (hM : MInv rs I (k + 1)) (hU : UInv rs I (k + 1)) (hO : RankOk rs I k) (hh : h ≤ 1000)
    (hQ : ∀ I' : MI, (∀ a, (a < k ∨ k + 20 ≤ a) → I' a = I a) → vq rs I I' (k + 1) → I' k 4 = w h → Ready rs I' k h → Q (.inl (some (.ref k))) (mk S I' L R G)) :
    XC (d + 68) 43 [.ref k, .int (w h)] (mk S I L R G) Q := by
  obtain ⟨g0, g1, g2, g3⟩ := id hK
  have main : XX (d + 68) 43 8 [some (.ref k), some (.int (w h)), none] [] (mk S I L R G) Q := by
    have lp : ∀ (j n : Nat) (I1 : MI), n + j = h + 1 → (∀ a, (a < k ∨ k + 20 ≤ a) → I1 a = I a) → vq rs I I1 (k + 1) → I1 k 3 = w ((List.range n).filter (fun n : Nat => (T rs n).isSome)).length → Txt (I1 (k + 18)) 0 (zl ((List.range n).filter (fun n : Nat => (T rs n).isSome))) → (∀ m : Nat, m < n → Kn I1 (k + 1) m) → XX (d + 68) 43 15 [some (.ref k), some (.int (w h)), some (.int (w n))] [] (mk S I1 L R G) Q := by
      intro j
      induction j with
      | zero =>
        intro n I1 hn hf hq e3 hT hk
        have : n = h + 1 := by omega
        subst this
        have hlen : ((List.range (h + 1)).filter (fun n : Nat => (T rs n).isSome)).length ≤ h + 1 := saidl_len
        have fin : XX (d + 68) 43 67 [some (.ref k), some (.int (w h)), some (.int (w ((h + 1 : Nat) : Int)))] [] (mk S I1 L R G) Q := by
          simp (disch := omega) only [q_43_0, q_43_1, q_43_4, q_43_5, q_43_8, q_43_9, q_43_10, q_43_13, q_43_14, q_43_15, q_43_16, q_43_17, q_43_20, q_43_21, q_43_24, q_43_27, q_43_30, q_43_31, q_43_34, q_43_35, q_43_38, q_43_41, q_43_42, q_43_45, q_43_46, q_43_49, q_43_50, q_43_51, q_43_52, q_43_53, q_43_56, q_43_57, q_43_58, q_43_61, q_43_64, q_43_67, q_43_68, q_43_71, q_43_72, q_43_73, q_43_76, q_43_77, q_43_e, va_rf_s, bz_0, bz_1, bz_ok, bb_ok, Nat.add_assoc, w_lt, w_add, w_sub, w_mul, w_div, em_def, w_eq, w_inT, ↓ilt_t, ↓ilt_f, ↓ieq_t, ↓ieq_f, ntT, w_b, w_ix, kx_v, kx_n, kl_n, kl_i, kl_r, kl_o, inA_i, inA_s, inA_b, inA_z, inA_l, inA_0, inA_4, inA_5, inA_6, inA_7, inA_8, inA_9, inA_10, al_0, al_1, al_2, al_4, al_5, al_98, bsP_2, bsP_3, wr_same, wr_wr, wr_ne, up_same, up_ne, Nat.reduceAdd, Int.reduceAdd, Int.reduceSub, Int.reduceMul, Int.reduceLT, Int.reduceLE, Int.reduceEq, Int.reduceNeg, Int.reduceToNat, Nat.reduceLT, Nat.reduceLeDiff, Nat.reduceEqDiff, ↓reduceIte, true_and, and_true, not_true_eq_false, not_false_eq_true, eq_self, or_true, true_or, or_false, false_or, if_true, if_false, Int.toNat_natCast, w_ite, Nat.add_zero, reduceCtorEq, ne_eq, g0]
          refine sp_44 (tx := tx rs) (A0 := saidl rs h) hK e3 (by have := saidl_len (rs := rs) (h := h); omega) hT (fun n hn => ?_) (fun I2 hf2 hT2 => ?_)
          · have hm := saidl_mem.mp hn
            obtain ⟨t, ht⟩ := Option.isSome_iff_exists.mp hm.2
            have e : tx rs n = t := by unfold tx; rw [ht]; rfl
            exact ⟨by omega, by rw [e]; exact Kn.Sd hq.2.1 hR.ok (hk n (by omega)) (by omega) ht⟩
          · simp (disch := omega) only [q_43_0, q_43_1, q_43_4, q_43_5, q_43_8, q_43_9, q_43_10, q_43_13, q_43_14, q_43_15, q_43_16, q_43_17, q_43_20, q_43_21, q_43_24, q_43_27, q_43_30, q_43_31, q_43_34, q_43_35, q_43_38, q_43_41, q_43_42, q_43_45, q_43_46, q_43_49, q_43_50, q_43_51, q_43_52, q_43_53, q_43_56, q_43_57, q_43_58, q_43_61, q_43_64, q_43_67, q_43_68, q_43_71, q_43_72, q_43_73, q_43_76, q_43_77, q_43_e, va_rf_s, bz_0, bz_1, bz_ok, bb_ok, Nat.add_assoc, w_lt, w_add, w_sub, w_mul, w_div, em_def, w_eq, w_inT, ↓ilt_t, ↓ilt_f, ↓ieq_t, ↓ieq_f, ntT, w_b, w_ix, kx_v, kx_n, kl_n, kl_i, kl_r, kl_o, inA_i, inA_s, inA_b, inA_z, inA_l, inA_0, inA_4, inA_5, inA_6, inA_7, inA_8, inA_9, inA_10, al_0, al_1, al_2, al_4, al_5, al_98, bsP_2, bsP_3, wr_same, wr_wr, wr_ne, up_same, up_ne, Nat.reduceAdd, Int.reduceAdd, Int.reduceSub, Int.reduceMul, Int.reduceLT, Int.reduceLE, Int.reduceEq, Int.reduceNeg, Int.reduceToNat, Nat.reduceLT, Nat.reduceLeDiff, Nat.reduceEqDiff, ↓reduceIte, true_and, and_true, not_true_eq_false, not_false_eq_true, eq_self, or_true, true_or, or_false, false_or, if_true, if_false, Int.toNat_natCast, w_ite, Nat.add_zero, reduceCtorEq, ne_eq, g0]
            have hq2 : vq rs I (wr I2 k (up (I2 k) 4 (w h))) (k + 1) := hq.tail (fun a h1 h2 => by rw [wr_ne (by omega), hf2 a (by omega) (by omega)])
            refine hQ _ (fun a ha => by rw [wr_ne (by omega), hf2 a (by omega) (by omega), hf a ha]) hq2 (by rw [wr_same, up_same]) ⟨?_, ?_, fun n hn => ?_⟩
            · rw [wr_same, up_ne (by decide), hf2 k (by omega) (by omega), e3, ordl_len]; rfl
            · rw [wr_ne (by omega)]; exact hT2
            · have hm := ordl_mem.mp hn
              exact Kn_congr (by rw [wr_ne (by omega), hf2 _ (by omega) (by omega)]) (hk n (by omega))
        rw [q_43_15]
        simp (disch := omega) only [q_43_0, q_43_1, q_43_4, q_43_5, q_43_8, q_43_9, q_43_10, q_43_13, q_43_14, q_43_16, q_43_17, q_43_20, q_43_21, q_43_24, q_43_27, q_43_30, q_43_31, q_43_34, q_43_35, q_43_38, q_43_41, q_43_42, q_43_45, q_43_46, q_43_49, q_43_50, q_43_51, q_43_52, q_43_53, q_43_56, q_43_57, q_43_58, q_43_61, q_43_64, q_43_68, q_43_71, q_43_72, q_43_73, q_43_76, q_43_77, q_43_e, va_rf_s, bz_0, bz_1, bz_ok, bb_ok, Nat.add_assoc, w_lt, w_add, w_sub, w_mul, w_div, em_def, w_eq, w_inT, ↓ilt_t, ↓ilt_f, ↓ieq_t, ↓ieq_f, ntT, w_b, w_ix, kx_v, kx_n, kl_n, kl_i, kl_r, kl_o, inA_i, inA_s, inA_b, inA_z, inA_l, inA_0, inA_4, inA_5, inA_6, inA_7, inA_8, inA_9, inA_10, al_0, al_1, al_2, al_4, al_5, al_98, bsP_2, bsP_3, wr_same, wr_wr, wr_ne, up_same, up_ne, Nat.reduceAdd, Int.reduceAdd, Int.reduceSub, Int.reduceMul, Int.reduceLT, Int.reduceLE, Int.reduceEq, Int.reduceNeg, Int.reduceToNat, Nat.reduceLT, Nat.reduceLeDiff, Nat.reduceEqDiff, ↓reduceIte, true_and, and_true, not_true_eq_false, not_false_eq_true, eq_self, or_true, true_or, or_false, false_or, if_true, if_false, Int.toNat_natCast, w_ite, Nat.add_zero, reduceCtorEq, ne_eq]
        have := fin
        simp only [Int.natCast_add, Int.natCast_one] at this
        exact this
      | succ j ih =>
        intro n I1 hn hf hq e3 hT hk
        have hlen : ((List.range n).filter (fun n : Nat => (T rs n).isSome)).length ≤ n := by
          have := List.length_filter_le (fun n : Nat => (T rs n).isSome) (List.range n)
          rw [List.length_range] at this
          exact this
        have hfs : (List.range (n + 1)).filter (fun n : Nat => (T rs n).isSome) = (List.range n).filter (fun n : Nat => (T rs n).isSome) ++ (if (T rs n).isSome = true then [n] else []) := by
          rw [List.range_succ, List.filter_append]
          congr 1
          by_cases c : (T rs n).isSome = true
          · rw [if_pos c]; simp [c]
          · rw [if_neg c]; simp [c]
        generalize hA : (List.range n).filter (fun n : Nat => (T rs n).isSome) = A at *
        rw [q_43_15]
        simp (disch := omega) only [q_43_0, q_43_1, q_43_4, q_43_5, q_43_8, q_43_9, q_43_10, q_43_13, q_43_14, q_43_16, q_43_17, q_43_20, q_43_21, q_43_24, q_43_27, q_43_30, q_43_31, q_43_34, q_43_35, q_43_38, q_43_41, q_43_42, q_43_45, q_43_46, q_43_49, q_43_50, q_43_51, q_43_52, q_43_53, q_43_56, q_43_57, q_43_58, q_43_61, q_43_64, q_43_68, q_43_71, q_43_72, q_43_73, q_43_76, q_43_77, q_43_e, va_rf_s, bz_0, bz_1, bz_ok, bb_ok, Nat.add_assoc, w_lt, w_add, w_sub, w_mul, w_div, em_def, w_eq, w_inT, ↓ilt_t, ↓ilt_f, ↓ieq_t, ↓ieq_f, ntT, w_b, w_ix, kx_v, kx_n, kl_n, kl_i, kl_r, kl_o, inA_i, inA_s, inA_b, inA_z, inA_l, inA_0, inA_4, inA_5, inA_6, inA_7, inA_8, inA_9, inA_10, al_0, al_1, al_2, al_4, al_5, al_98, bsP_2, bsP_3, wr_same, wr_wr, wr_ne, up_same, up_ne, Nat.reduceAdd, Int.reduceAdd, Int.reduceSub, Int.reduceMul, Int.reduceLT, Int.reduceLE, Int.reduceEq, Int.reduceNeg, Int.reduceToNat, Nat.reduceLT, Nat.reduceLeDiff, Nat.reduceEqDiff, ↓reduceIte, true_and, and_true, not_true_eq_false, not_false_eq_true, eq_self, or_true, true_or, or_false, false_or, if_true, if_false, Int.toNat_natCast, w_ite, Nat.add_zero, reduceCtorEq, ne_eq, g0, e3, g1.1]
        refine sp_84 g1 (hR.congr' hl (fun a ha => hf a (by omega)) hq.1) hq.2.1 hq.2.2.1 (by omega) (by omega) (fun I2 hp hk2 => ?_)
        have hk2 := hk2 (by omega) (by omega)
        have hq2 := hq.trans hp.vq
        have e3' : I2 k 3 = w A.length := by rw [hp.1 k (by omega)]; exact e3
        have hf2 : ∀ a, (a < k ∨ k + 20 ≤ a) → I2 a = I a := fun a ha => (hp.1 a (by omega)).trans (hf a ha)
        have hT2 : Txt (I2 (k + 18)) 0 (zl A) := by rw [hp.1 _ (by omega)]; exact hT
        have hkk : ∀ m : Nat, m < n + 1 → Kn I2 (k + 1) m := fun m hm => by
          by_cases c : m = n
          · subst c; exact hk2
          · exact Kn_vq hp.vq (by omega) (hk m (by omega))
        have hTs : (sd rs n).isSome = (T rs n).isSome := by unfold T; cases sd rs n <;> rfl
        rw [hTs]
        cases c : (T rs n).isSome with
        | false =>
          have := ih (n + 1) I2 (by omega) hf2 hq2 (by rw [hfs, c]; simpa using e3') (by rw [hfs, c]; simpa using hT2) hkk
          simp only [Int.natCast_add, Int.natCast_one] at this
          simp (disch := omega) only [q_43_0, q_43_1, q_43_4, q_43_5, q_43_8, q_43_9, q_43_10, q_43_13, q_43_14, q_43_16, q_43_17, q_43_20, q_43_21, q_43_24, q_43_27, q_43_30, q_43_31, q_43_34, q_43_35, q_43_38, q_43_41, q_43_42, q_43_45, q_43_46, q_43_49, q_43_50, q_43_51, q_43_52, q_43_53, q_43_56, q_43_57, q_43_58, q_43_61, q_43_64, q_43_68, q_43_71, q_43_72, q_43_73, q_43_76, q_43_77, q_43_e, va_rf_s, bz_0, bz_1, bz_ok, bb_ok, Nat.add_assoc, w_lt, w_add, w_sub, w_mul, w_div, em_def, w_eq, w_inT, ↓ilt_t, ↓ilt_f, ↓ieq_t, ↓ieq_f, ntT, w_b, w_ix, kx_v, kx_n, kl_n, kl_i, kl_r, kl_o, inA_i, inA_s, inA_b, inA_z, inA_l, inA_0, inA_4, inA_5, inA_6, inA_7, inA_8, inA_9, inA_10, al_0, al_1, al_2, al_4, al_5, al_98, bsP_2, bsP_3, wr_same, wr_wr, wr_ne, up_same, up_ne, Nat.reduceAdd, Int.reduceAdd, Int.reduceSub, Int.reduceMul, Int.reduceLT, Int.reduceLE, Int.reduceEq, Int.reduceNeg, Int.reduceToNat, Nat.reduceLT, Nat.reduceLeDiff, Nat.reduceEqDiff, ↓reduceIte, true_and, and_true, not_true_eq_false, not_false_eq_true, eq_self, or_true, true_or, or_false, false_or, if_true, if_false, Int.toNat_natCast, w_ite, Nat.add_zero, reduceCtorEq, ne_eq, bz_f]
          exact this
        | true =>
          simp (disch := omega) only [q_43_0, q_43_1, q_43_4, q_43_5, q_43_8, q_43_9, q_43_10, q_43_13, q_43_14, q_43_16, q_43_17, q_43_20, q_43_21, q_43_24, q_43_27, q_43_30, q_43_31, q_43_34, q_43_35, q_43_38, q_43_41, q_43_42, q_43_45, q_43_46, q_43_49, q_43_50, q_43_51, q_43_52, q_43_53, q_43_56, q_43_57, q_43_58, q_43_61, q_43_64, q_43_68, q_43_71, q_43_72, q_43_73, q_43_76, q_43_77, q_43_e, va_rf_s, bz_0, bz_1, bz_ok, bb_ok, Nat.add_assoc, w_lt, w_add, w_sub, w_mul, w_div, em_def, w_eq, w_inT, ↓ilt_t, ↓ilt_f, ↓ieq_t, ↓ieq_f, ntT, w_b, w_ix, kx_v, kx_n, kl_n, kl_i, kl_r, kl_o, inA_i, inA_s, inA_b, inA_z, inA_l, inA_0, inA_4, inA_5, inA_6, inA_7, inA_8, inA_9, inA_10, al_0, al_1, al_2, al_4, al_5, al_98, bsP_2, bsP_3, wr_same, wr_wr, wr_ne, up_same, up_ne, Nat.reduceAdd, Int.reduceAdd, Int.reduceSub, Int.reduceMul, Int.reduceLT, Int.reduceLE, Int.reduceEq, Int.reduceNeg, Int.reduceToNat, Nat.reduceLT, Nat.reduceLeDiff, Nat.reduceEqDiff, ↓reduceIte, true_and, and_true, not_true_eq_false, not_false_eq_true, eq_self, or_true, true_or, or_false, false_or, if_true, if_false, Int.toNat_natCast, w_ite, Nat.add_zero, reduceCtorEq, ne_eq, bz_t, g0, g2, e3']
          have hlA : (A ++ [n]).length = A.length + 1 := by rw [List.length_append]; rfl
          have := ih (n + 1) (wr (wr I2 (k + 18) (up (I2 (k + 18)) A.length (w n))) k (up (I2 k) 3 (w ((A.length : Int) + 1)))) (by omega) (fun a ha => by rw [wr_ne (by omega), wr_ne (by omega), hf2 a ha]) (hq2.tail (fun a h1 h2 => by rw [wr_ne (by omega), wr_ne (by omega)])) (by
            rw [hfs, c, if_pos rfl, hlA, wr_same, up_same]; rfl) (by
            rw [hfs, c, if_pos rfl, wr_ne (by omega), wr_same, zl_app]
            refine Txt_app (Txt_congr hT2 (fun j _ hj => up_ne (by rw [zl_len] at hj; omega))) ?_
            rw [zl_len, Nat.zero_add]
            intro i hi
            have : i = 0 := by simpa [zl] using hi
            subst this
            exact up_same) (fun m hm => Kn_congr (by rw [wr_ne (by omega), wr_ne (by omega)]) (hkk m hm))
          simp only [Int.natCast_add, Int.natCast_one] at this
          exact this
    simp (disch := omega) only [q_43_0, q_43_1, q_43_4, q_43_5, q_43_8, q_43_9, q_43_10, q_43_13, q_43_14, q_43_16, q_43_17, q_43_20, q_43_21, q_43_24, q_43_27, q_43_30, q_43_31, q_43_34, q_43_35, q_43_38, q_43_41, q_43_42, q_43_45, q_43_46, q_43_49, q_43_50, q_43_51, q_43_52, q_43_53, q_43_56, q_43_57, q_43_58, q_43_61, q_43_64, q_43_68, q_43_71, q_43_72, q_43_73, q_43_76, q_43_77, q_43_e, va_rf_s, bz_0, bz_1, bz_ok, bb_ok, Nat.add_assoc, w_lt, w_add, w_sub, w_mul, w_div, em_def, w_eq, w_inT, ↓ilt_t, ↓ilt_f, ↓ieq_t, ↓ieq_f, ntT, w_b, w_ix, kx_v, kx_n, kl_n, kl_i, kl_r, kl_o, inA_i, inA_s, inA_b, inA_z, inA_l, inA_0, inA_4, inA_5, inA_6, inA_7, inA_8, inA_9, inA_10, al_0, al_1, al_2, al_4, al_5, al_98, bsP_2, bsP_3, wr_same, wr_wr, wr_ne, up_same, up_ne, Nat.reduceAdd, Int.reduceAdd, Int.reduceSub, Int.reduceMul, Int.reduceLT, Int.reduceLE, Int.reduceEq, Int.reduceNeg, Int.reduceToNat, Nat.reduceLT, Nat.reduceLeDiff, Nat.reduceEqDiff, ↓reduceIte, true_and, and_true, not_true_eq_false, not_false_eq_true, eq_self, or_true, true_or, or_false, false_or, if_true, if_false, Int.toNat_natCast, w_ite, Nat.add_zero, reduceCtorEq, ne_eq, g0]
    have := lp (h + 1) 0 (wr I k (up (I k) 3 (w 0))) (by omega) (fun a ha => wr_ne (by omega)) (vq.same hM hU (fun a h1 h2 => wr_ne (by omega))) (by rw [wr_same, up_same]; rfl) (fun i hi => by simp [zl] at hi) (fun m hm => by omega)
    simp only [Int.natCast_zero] at this
    exact this
  rcases hO with hO | ⟨p, p1, p2, p3⟩
  · simp (disch := omega) only [q_43_0, q_43_1, q_43_4, q_43_5, q_43_9, q_43_10, q_43_13, q_43_14, q_43_16, q_43_17, q_43_20, q_43_21, q_43_24, q_43_27, q_43_30, q_43_31, q_43_34, q_43_35, q_43_38, q_43_41, q_43_42, q_43_45, q_43_46, q_43_49, q_43_50, q_43_51, q_43_52, q_43_53, q_43_56, q_43_57, q_43_58, q_43_61, q_43_64, q_43_67, q_43_68, q_43_71, q_43_72, q_43_73, q_43_76, q_43_77, q_43_e, va_rf_s, bz_0, bz_1, bz_ok, bb_ok, Nat.add_assoc, w_lt, w_add, w_sub, w_mul, w_div, em_def, w_eq, w_inT, ↓ilt_t, ↓ilt_f, ↓ieq_t, ↓ieq_f, ntT, w_b, w_ix, kx_v, kx_n, kl_n, kl_i, kl_r, kl_o, inA_i, inA_s, inA_b, inA_z, inA_l, inA_0, inA_4, inA_5, inA_6, inA_7, inA_8, inA_9, inA_10, al_0, al_1, al_2, al_4, al_5, al_98, bsP_2, bsP_3, wr_same, wr_wr, wr_ne, up_same, up_ne, Nat.reduceAdd, Int.reduceAdd, Int.reduceSub, Int.reduceMul, Int.reduceLT, Int.reduceLE, Int.reduceEq, Int.reduceNeg, Int.reduceToNat, Nat.reduceLT, Nat.reduceLeDiff, Nat.reduceEqDiff, ↓reduceIte, true_and, and_true, not_true_eq_false, not_false_eq_true, eq_self, or_true, true_or, or_false, false_or, if_true, if_false, Int.toNat_natCast, w_ite, Nat.add_zero, reduceCtorEq, ne_eq, g0, hO]
    exact main
  · by_cases c : p = h
    · subst c
      simp (disch := omega) only [q_43_0, q_43_1, q_43_4, q_43_5, q_43_9, q_43_10, q_43_13, q_43_14, q_43_16, q_43_17, q_43_20, q_43_21, q_43_24, q_43_27, q_43_30, q_43_31, q_43_34, q_43_35, q_43_38, q_43_41, q_43_42, q_43_45, q_43_46, q_43_49, q_43_50, q_43_51, q_43_52, q_43_53, q_43_56, q_43_57, q_43_58, q_43_61, q_43_64, q_43_67, q_43_68, q_43_71, q_43_72, q_43_73, q_43_76, q_43_77, q_43_e, va_rf_s, bz_0, bz_1, bz_ok, bb_ok, Nat.add_assoc, w_lt, w_add, w_sub, w_mul, w_div, em_def, w_eq, w_inT, ↓ilt_t, ↓ilt_f, ↓ieq_t, ↓ieq_f, ntT, w_b, w_ix, kx_v, kx_n, kl_n, kl_i, kl_r, kl_o, inA_i, inA_s, inA_b, inA_z, inA_l, inA_0, inA_4, inA_5, inA_6, inA_7, inA_8, inA_9, inA_10, al_0, al_1, al_2, al_4, al_5, al_98, bsP_2, bsP_3, wr_same, wr_wr, wr_ne, up_same, up_ne, Nat.reduceAdd, Int.reduceAdd, Int.reduceSub, Int.reduceMul, Int.reduceLT, Int.reduceLE, Int.reduceEq, Int.reduceNeg, Int.reduceToNat, Nat.reduceLT, Nat.reduceLeDiff, Nat.reduceEqDiff, ↓reduceIte, true_and, and_true, not_true_eq_false, not_false_eq_true, eq_self, or_true, true_or, or_false, false_or, if_true, if_false, Int.toNat_natCast, w_ite, Nat.add_zero, reduceCtorEq, ne_eq, g0, p2]
      exact hQ I (fun _ _ => rfl) (vq.refl hM hU) p2 p3
    · simp (disch := omega) only [q_43_0, q_43_1, q_43_4, q_43_5, q_43_9, q_43_10, q_43_13, q_43_14, q_43_16, q_43_17, q_43_20, q_43_21, q_43_24, q_43_27, q_43_30, q_43_31, q_43_34, q_43_35, q_43_38, q_43_41, q_43_42, q_43_45, q_43_46, q_43_49, q_43_50, q_43_51, q_43_52, q_43_53, q_43_56, q_43_57, q_43_58, q_43_61, q_43_64, q_43_67, q_43_68, q_43_71, q_43_72, q_43_73, q_43_76, q_43_77, q_43_e, va_rf_s, bz_0, bz_1, bz_ok, bb_ok, Nat.add_assoc, w_lt, w_add, w_sub, w_mul, w_div, em_def, w_eq, w_inT, ↓ilt_t, ↓ilt_f, ↓ieq_t, ↓ieq_f, ntT, w_b, w_ix, kx_v, kx_n, kl_n, kl_i, kl_r, kl_o, inA_i, inA_s, inA_b, inA_z, inA_l, inA_0, inA_4, inA_5, inA_6, inA_7, inA_8, inA_9, inA_10, al_0, al_1, al_2, al_4, al_5, al_98, bsP_2, bsP_3, wr_same, wr_wr, wr_ne, up_same, up_ne, Nat.reduceAdd, Int.reduceAdd, Int.reduceSub, Int.reduceMul, Int.reduceLT, Int.reduceLE, Int.reduceEq, Int.reduceNeg, Int.reduceToNat, Nat.reduceLT, Nat.reduceLeDiff, Nat.reduceEqDiff, ↓reduceIte, true_and, and_true, not_true_eq_false, not_false_eq_true, eq_self, or_true, true_or, or_false, false_or, if_true, if_false, Int.toNat_natCast, w_ite, Nat.add_zero, reduceCtorEq, ne_eq, g0, p2]
      exact main
end

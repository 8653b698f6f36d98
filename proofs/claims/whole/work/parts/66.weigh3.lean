/-! the whole chart, and the way read off it -/
theorem chE_st {c : Nat → Nat → Nat} {ls : Nat → Nat → Int} {m k : Nat} : ∀ {j j' : Nat}, j ≤ j' → m ≤ k + j → chE c ls m j' k = chE c ls m j k
  | j, 0, h, _ => by
    have : j = 0 := by omega
    subst this; rfl
  | j, j' + 1, h, hk => by
    by_cases e : j = j' + 1
    · rw [e]
    · rw [chE, if_neg (by omega)]
      exact chE_st (by omega) hk
/-- how an entry comes about, when there is a way -/
theorem chK_way {c : Nat → Nat → Nat} {ls : Nat → Nat → Int} {E : Nat → CE4} {i : Nat} : ∀ q, (chK c ls E i q).2.1 ≠ -1 → ∃ k, i < k ∧ k ≤ i + q ∧ c i k ≠ 0 ∧ (E k).2.1 ≠ -1 ∧ (chK c ls E i q).2.1 = (E k).2.1 + 1 ∧ (chK c ls E i q).2.2.1 = (k : Int) ∧ (chK c ls E i q).2.2.2 = ls i k
  | 0, h => absurd rfl h
  | q + 1, h => by
    rw [chK] at h ⊢
    by_cases c0 : c i (i + 1 + q) = 0
    · rw [if_pos c0] at h ⊢
      obtain ⟨k, h1, h2, h3⟩ := chK_way q h
      exact ⟨k, h1, by omega, h3⟩
    · rw [if_neg c0] at h ⊢
      dsimp only at h ⊢
      by_cases c1 : (E (i + 1 + q)).2.1 ≠ -1 ∧ ((chK c ls E i q).2.1 = -1 ∨ (E (i + 1 + q)).2.1 + 1 ≤ (chK c ls E i q).2.1)
      · rw [if_pos c1] at h ⊢
        exact ⟨i + 1 + q, by omega, by omega, c0, c1.1, rfl, rfl, rfl⟩
      · rw [if_neg c1] at h ⊢
        obtain ⟨k, h1, h2, h3⟩ := chK_way q h
        exact ⟨k, h1, by omega, h3⟩
theorem chE_way {c : Nat → Nat → Nat} {ls : Nat → Nat → Int} {m i : Nat} (hi : i < m) (h : (chE c ls m m i).2.1 ≠ -1) : ∃ k, i < k ∧ k ≤ m ∧ c i k ≠ 0 ∧ (chE c ls m m k).2.1 ≠ -1 ∧ (chE c ls m m i).2.1 = (chE c ls m m k).2.1 + 1 ∧ (chE c ls m m i).2.2.1 = (k : Int) ∧ (chE c ls m m i).2.2.2 = ls i k := by
  have e : chE c ls m m i = chK c ls (chE c ls m (m - i - 1)) i (m - i) := by
    rw [chE_st (j := m - i - 1 + 1) (by omega) (by omega), chE, if_pos (by omega)]
  rw [e] at h ⊢
  obtain ⟨k, h1, h2, h3, h4, h5, h6, h7⟩ := chK_way _ h
  have ek : chE c ls m m k = chE c ls m (m - i - 1) k := chE_st (by omega) (by omega)
  exact ⟨k, h1, by omega, h3, by rw [ek]; exact h4, by rw [ek]; exact h5, h6, h7⟩
theorem chE_m {c : Nat → Nat → Nat} {ls : Nat → Nat → Int} {m : Nat} : chE c ls m m m = (1, 0, -1, -1) := by
  rw [chE_st (j := 0) (by omega) (by omega), chE]
theorem chE_nn {c : Nat → Nat → Nat} {ls : Nat → Nat → Int} {m : Nat} (hm : m ≤ 40) {k : Nat} (hk : k ≤ m) (h : (chE c ls m m k).2.1 = 0) : k = m := by
  apply Classical.byContradiction
  intro hne
  obtain ⟨k', h1, h2, -, h4, h5, -⟩ := chE_way (show k < m by omega) (by rw [h]; decide)
  have := (chE_bd (c := c) (ls := ls) hm m k' (by omega) h2).2.2.1
  omega
/-- where the way is after some stretches -/
def pth (E : Nat → CE4) : Nat → Nat
  | 0 => 0
  | t + 1 => (E (pth E t)).2.2.1.toNat
def sumW (E : Nat → CE4) : Nat → Int
  | 0 => 0
  | t + 1 => sumW E t + (E (pth E t)).2.2.2
theorem pth_ok {c : Nat → Nat → Nat} {ls : Nat → Nat → Int} {m : Nat} (hm : m ≤ 40) (h : (chE c ls m m 0).2.1 ≠ -1) : ∀ t : Nat, (t : Int) ≤ (chE c ls m m 0).2.1 → pth (chE c ls m m) t ≤ m ∧ (chE c ls m m (pth (chE c ls m m) t)).2.1 = (chE c ls m m 0).2.1 - t ∧ ((t : Int) < (chE c ls m m 0).2.1 → pth (chE c ls m m) t < m ∧ ∃ k, pth (chE c ls m m) t < k ∧ k ≤ m ∧ c (pth (chE c ls m m) t) k ≠ 0 ∧ pth (chE c ls m m) (t + 1) = k ∧ (chE c ls m m (pth (chE c ls m m) t)).2.2.1 = (k : Int) ∧ (chE c ls m m (pth (chE c ls m m) t)).2.2.2 = ls (pth (chE c ls m m) t) k) := by
  have step : ∀ i, i ≤ m → 0 < (chE c ls m m i).2.1 → i < m ∧ ∃ k, i < k ∧ k ≤ m ∧ c i k ≠ 0 ∧ (chE c ls m m k).2.1 = (chE c ls m m i).2.1 - 1 ∧ (chE c ls m m i).2.2.1 = (k : Int) ∧ (chE c ls m m i).2.2.2 = ls i k := by
    intro i hi h0
    have hlt : i < m := by
      rcases Nat.lt_or_ge i m with h | h
      · exact h
      · have : i = m := by omega
        rw [this, chE_m] at h0; exact absurd h0 (by decide)
    obtain ⟨k, h1, h2, h3, h4, h5, h6, h7⟩ := chE_way (c := c) (ls := ls) hlt (by omega)
    exact ⟨hlt, k, h1, h2, h3, by omega, h6, h7⟩
  intro t
  induction t with
  | zero =>
    intro ht
    refine ⟨Nat.zero_le _, by show (chE c ls m m 0).2.1 = _; omega, fun h0 => ?_⟩
    obtain ⟨s0, k, s1, s2, s3, s4, s5, s6⟩ := step 0 (Nat.zero_le _) (by omega)
    exact ⟨s0, k, s1, s2, s3, by show (chE c ls m m 0).2.2.1.toNat = k; rw [s5]; rfl, s5, s6⟩
  | succ t ih =>
    intro ht
    obtain ⟨i1, i2, i3⟩ := ih (by omega)
    obtain ⟨i4, k, k1, k2, k3, k4, k5, k6⟩ := i3 (by omega)
    obtain ⟨-, k', k1', k2', k3', k4', k5', k6'⟩ := step _ i1 (by omega)
    have ek : k' = k := by rw [k5] at k5'; omega
    subst ek
    rw [k4]
    refine ⟨k2, by rw [k4', i2]; omega, fun h0 => ?_⟩
    obtain ⟨s0, k'', s1, s2, s3, s4, s5, s6⟩ := step k' k2 (by rw [k4', i2]; omega)
    exact ⟨s0, k'', s1, s2, s3, by show (chE c ls m m (pth (chE c ls m m) (t + 1))).2.2.1.toNat = k''; rw [k4, s5]; rfl, s5, s6⟩
def chA (rs : List Rl) (p : Nat) (l : List Int) (st en : List Nat) : Nat → CE4 := chE (chC rs p l st en) (chL rs p l st en) st.length st.length
section
variable {d : Nat} {Q : XO → Hp → Prop} {S : SH} {I : MI} {L : ML} {R : MR} {G : MG} {A : Hp}
variable {h k0 : Nat} {rs : List Rl}
/-- the chart is weighed -/
def ChD (I : MI) (L : ML) (h : Nat) (rs : List Rl) (p : Nat) (l : List Int) (st en : List Nat) : Prop := ChAt I h l st en ∧ (∀ k, k ≤ st.length → EnAt I L h st.length k (chA rs p l st en k)) ∧ I h 8 = w (hcn (chC rs p l st en) st.length st.length : Nat)
theorem sp_16 {p : Nat} {l : List Int} {st en : List Nat} (hS : ChS S h) (hK : RankS S k0) (hd : k0 + 20 ≤ h ∨ h + 8 ≤ k0) (hp : p ≤ 1000) (hM : MInv rs I (k0 + 1)) (hr : rsOk rs) (hO : Ready rs I k0 p) (hc : ChAt I h l st en) (hw : WOk l st en) (hl : l.length ≤ 400)
    (hQ : ∀ (I' : MI) (L' : ML), (∀ a, (a < h ∨ h + 7 < a) → a ≠ k0 → I' a = I a) → (∀ j, j < 5 → I' k0 j = I k0 j) → (∀ a, a ≠ h + 4 → L' a = L a) → ChD I' L' h rs p l st en → Q (.inl none) (mk S I' L' R G)) :
    XC (d + 6) 16 [.ref h, .ref k0] (mk S I L R G) Q := by
  obtain ⟨g0, g1, g2, g3, g4, g5, g6, g7⟩ := id hS
  obtain ⟨c3, cl, cs, ce, clen, c40⟩ := id hc
  have lp : ∀ (x j : Nat) (I1 : MI) (L1 : ML), j + x = st.length → (∀ a, (a < h ∨ h + 7 < a) → a ≠ k0 → I1 a = I a) → (∀ j, j < 5 → I1 k0 j = I k0 j) → (∀ a, a ≠ h + 4 → L1 a = L a) → ChAt I1 h l st en → (∀ k, st.length ≤ k + j → k ≤ st.length → EnAt I1 L1 h st.length k (chE (chC rs p l st en) (chL rs p l st en) st.length j k)) → I1 h 8 = w (hcn (chC rs p l st en) st.length j : Nat) → XX (d + 6) 16 32 [some (.ref h), some (.ref k0), some (.int (w ((st.length : Int) - j - 1)))] [] (mk S I1 L1 R G) Q := by
    intro x
    induction x with
    | zero =>
      intro j I1 L1 hj f1 f2 f3 f4 f5 f6
      have : j = st.length := by omega
      subst this
      rw [q_16_32]
      simp (disch := omega) only [q_16_0, q_16_1, q_16_2, q_16_5, q_16_6, q_16_9, q_16_10, q_16_13, q_16_14, q_16_15, q_16_16, q_16_19, q_16_20, q_16_23, q_16_24, q_16_25, q_16_26, q_16_29, q_16_30, q_16_31, q_16_33, q_16_36, q_16_37, q_16_38, q_16_39, q_16_42, q_16_45, q_16_48, q_16_e, va_rf_s, bz_0, bz_1, bz_ok, bb_ok, Nat.add_assoc, w_lt, w_add, w_sub, w_mul, w_div, em_def, w_eq, w_inT, ↓ilt_t, ↓ilt_f, ↓ieq_t, ↓ieq_f, ntT, w_b, w_ix, kx_v, kx_n, kl_n, kl_i, kl_r, kl_o, inA_i, inA_s, inA_b, inA_z, inA_l, inA_0, inA_4, inA_5, inA_6, inA_7, inA_8, inA_9, inA_10, al_0, al_1, al_2, al_4, al_5, al_98, bsP_2, bsP_3, wr_same, wr_wr, wr_ne, up_same, up_ne, Nat.reduceAdd, Int.reduceAdd, Int.reduceSub, Int.reduceMul, Int.reduceLT, Int.reduceLE, Int.reduceEq, Int.reduceNeg, Int.reduceToNat, Nat.reduceLT, Nat.reduceLeDiff, Nat.reduceEqDiff, ↓reduceIte, true_and, and_true, not_true_eq_false, not_false_eq_true, eq_self, or_true, true_or, or_false, false_or, if_true, if_false, Int.toNat_natCast, w_ite, Nat.add_zero, reduceCtorEq, ne_eq]
      exact hQ I1 L1 f1 f2 f3 ⟨f4, fun k hk => f5 k (by omega) hk, f6⟩
    | succ x ih =>
      intro j I1 L1 hj f1 f2 f3 f4 f5 f6
      have hb := hcn_bd (c := chC rs p l st en) (m := st.length) j (by omega)
      have e1 : (st.length : Int) - j - 1 = ((st.length - j - 1 : Nat) : Int) := by omega
      rw [e1, q_16_32]
      have e2 : (st.length : Int) - (j + 1 : Nat) - 1 = ((st.length - j - 1 : Nat) : Int) + -1 := by omega
      generalize hi : st.length - j - 1 = i at *
      simp (disch := omega) only [q_16_0, q_16_1, q_16_2, q_16_5, q_16_6, q_16_9, q_16_10, q_16_13, q_16_14, q_16_15, q_16_16, q_16_19, q_16_20, q_16_23, q_16_24, q_16_25, q_16_26, q_16_29, q_16_30, q_16_31, q_16_33, q_16_36, q_16_37, q_16_38, q_16_39, q_16_42, q_16_45, q_16_48, q_16_e, va_rf_s, bz_0, bz_1, bz_ok, bb_ok, Nat.add_assoc, w_lt, w_add, w_sub, w_mul, w_div, em_def, w_eq, w_inT, ↓ilt_t, ↓ilt_f, ↓ieq_t, ↓ieq_f, ntT, w_b, w_ix, kx_v, kx_n, kl_n, kl_i, kl_r, kl_o, inA_i, inA_s, inA_b, inA_z, inA_l, inA_0, inA_4, inA_5, inA_6, inA_7, inA_8, inA_9, inA_10, al_0, al_1, al_2, al_4, al_5, al_98, bsP_2, bsP_3, wr_same, wr_wr, wr_ne, up_same, up_ne, Nat.reduceAdd, Int.reduceAdd, Int.reduceSub, Int.reduceMul, Int.reduceLT, Int.reduceLE, Int.reduceEq, Int.reduceNeg, Int.reduceToNat, Nat.reduceLT, Nat.reduceLeDiff, Nat.reduceEqDiff, ↓reduceIte, true_and, and_true, not_true_eq_false, not_false_eq_true, eq_self, or_true, true_or, or_false, false_or, if_true, if_false, Int.toNat_natCast, w_ite, Nat.add_zero, reduceCtorEq, ne_eq, g0]
      refine sp_17 (E := chE (chC rs p l st en) (chL rs p l st en) st.length j) (H := hcn (chC rs p l st en) st.length j) hS hK hd hp (hM.congr (f1 _ (by omega) (by omega)) (f1 _ (by omega) (by omega)) (f1 _ (by omega) (by omega)) (f1 _ (by omega) (by omega)) (f1 _ (by omega) (by omega))) hr ⟨by rw [f2 3 (by decide)]; exact hO.1, by rw [f1 _ (by omega) (by omega)]; exact hO.2.1, fun n hn => Kn_congr (f1 _ (by omega) (by omega)) (hO.2.2 n hn)⟩ f4 hw hl (by omega) (fun k h1 h2 => ⟨f5 k (by omega) h2, chE_bd c40 j k (by omega) h2⟩) f6 (by omega) (fun I2 L2 m1 m2 m3 m4 m5 m6 m7 => ?_)
      simp (disch := omega) only [q_16_0, q_16_1, q_16_2, q_16_5, q_16_6, q_16_9, q_16_10, q_16_13, q_16_14, q_16_15, q_16_16, q_16_19, q_16_20, q_16_23, q_16_24, q_16_25, q_16_26, q_16_29, q_16_30, q_16_31, q_16_33, q_16_36, q_16_37, q_16_38, q_16_39, q_16_42, q_16_45, q_16_48, q_16_e, va_rf_s, bz_0, bz_1, bz_ok, bb_ok, Nat.add_assoc, w_lt, w_add, w_sub, w_mul, w_div, em_def, w_eq, w_inT, ↓ilt_t, ↓ilt_f, ↓ieq_t, ↓ieq_f, ntT, w_b, w_ix, kx_v, kx_n, kl_n, kl_i, kl_r, kl_o, inA_i, inA_s, inA_b, inA_z, inA_l, inA_0, inA_4, inA_5, inA_6, inA_7, inA_8, inA_9, inA_10, al_0, al_1, al_2, al_4, al_5, al_98, bsP_2, bsP_3, wr_same, wr_wr, wr_ne, up_same, up_ne, Nat.reduceAdd, Int.reduceAdd, Int.reduceSub, Int.reduceMul, Int.reduceLT, Int.reduceLE, Int.reduceEq, Int.reduceNeg, Int.reduceToNat, Nat.reduceLT, Nat.reduceLeDiff, Nat.reduceEqDiff, ↓reduceIte, true_and, and_true, not_true_eq_false, not_false_eq_true, eq_self, or_true, true_or, or_false, false_or, if_true, if_false, Int.toNat_natCast, w_ite, Nat.add_zero, reduceCtorEq, ne_eq]
      have := ih (j + 1) I2 L2 (by omega) (fun a h1 h2 => (m1 a h1 h2).trans (f1 a h1 h2)) (fun j hj => (m2 j hj).trans (f2 j hj)) (fun a ha => (m3 a ha).trans (f3 a ha)) m4 (fun k h1 h2 => ?_) ?_
      · rw [e2] at this; exact this
      · by_cases ck : k = i
        · subst ck
          rw [chE, if_pos (by omega)]
          exact m6
        · rw [chE, if_neg (by omega)]
          exact m5 k (by omega) h2
      · rw [m7, hcn, show st.length - (j + 1) = i by omega, show st.length - i = j + 1 by omega]
  have := lp st.length 0 (wr (wr I h (up (I h) 8 (w 0))) (h + 5) (up (I (h + 5)) st.length (w 0))) (wr L (h + 4) (up (L (h + 4)) st.length (wl 1))) (by omega) (fun a h1 h2 => by rw [wr_ne (by omega), wr_ne (by omega)]) (fun j hj => by rw [wr_ne (by omega), wr_ne (by omega)]) (fun a ha => wr_ne ha) ⟨by rw [wr_ne (by omega), wr_same, up_ne (by decide)]; exact c3, by rw [wr_ne (by omega), wr_ne (by omega)]; exact cl, by rw [wr_ne (by omega), wr_ne (by omega)]; exact cs, by rw [wr_ne (by omega), wr_ne (by omega)]; exact ce, clen, c40⟩ (fun k h1 h2 => by
    have : k = st.length := by omega
    subst this
    exact ⟨by rw [wr_same, up_same]; rfl, by rw [wr_same, up_same]; rfl, fun h => absurd h (Nat.lt_irrefl _)⟩) (by rw [wr_ne (by omega), wr_same, up_same]; rfl)
  simp only [Int.natCast_zero, Int.sub_zero] at this
  simp (disch := omega) only [q_16_0, q_16_1, q_16_2, q_16_5, q_16_6, q_16_9, q_16_10, q_16_13, q_16_14, q_16_15, q_16_16, q_16_19, q_16_20, q_16_23, q_16_24, q_16_25, q_16_26, q_16_29, q_16_30, q_16_31, q_16_33, q_16_36, q_16_37, q_16_38, q_16_39, q_16_42, q_16_45, q_16_48, q_16_e, va_rf_s, bz_0, bz_1, bz_ok, bb_ok, Nat.add_assoc, w_lt, w_add, w_sub, w_mul, w_div, em_def, w_eq, w_inT, ↓ilt_t, ↓ilt_f, ↓ieq_t, ↓ieq_f, ntT, w_b, w_ix, kx_v, kx_n, kl_n, kl_i, kl_r, kl_o, inA_i, inA_s, inA_b, inA_z, inA_l, inA_0, inA_4, inA_5, inA_6, inA_7, inA_8, inA_9, inA_10, al_0, al_1, al_2, al_4, al_5, al_98, bsP_2, bsP_3, wr_same, wr_wr, wr_ne, up_same, up_ne, Nat.reduceAdd, Int.reduceAdd, Int.reduceSub, Int.reduceMul, Int.reduceLT, Int.reduceLE, Int.reduceEq, Int.reduceNeg, Int.reduceToNat, Nat.reduceLT, Nat.reduceLeDiff, Nat.reduceEqDiff, ↓reduceIte, true_and, and_true, not_true_eq_false, not_false_eq_true, eq_self, or_true, true_or, or_false, false_or, if_true, if_false, Int.toNat_natCast, w_ite, Nat.add_zero, reduceCtorEq, ne_eq, g0, g4, g5, c3]
  exact this
section
variable {p : Nat} {l : List Int} {st en : List Nat}
theorem sp_18 (hS : ChS S h) (hD : ChD I L h rs p l st en) : XC d 18 [.ref h] (mk S I L R G) Q ↔ Q (.inl (some (.int (w (chA rs p l st en 0).1)))) (mk S I L R G) := by
  obtain ⟨g0, g1, g2, g3, g4, g5, g6, g7⟩ := id hS
  have := (hD.2.1 0 (Nat.zero_le _)).1
  simp (disch := omega) only [q_18_0, q_18_1, q_18_4, q_18_5, q_18_6, q_18_7, q_18_e, va_rf_s, bz_0, bz_1, bz_ok, bb_ok, Nat.add_assoc, w_lt, w_add, w_sub, w_mul, w_div, em_def, w_eq, w_inT, ↓ilt_t, ↓ilt_f, ↓ieq_t, ↓ieq_f, ntT, w_b, w_ix, kx_v, kx_n, kl_n, kl_i, kl_r, kl_o, inA_i, inA_s, inA_b, inA_z, inA_l, inA_0, inA_4, inA_5, inA_6, inA_7, inA_8, inA_9, inA_10, al_0, al_1, al_2, al_4, al_5, al_98, bsP_2, bsP_3, wr_same, wr_wr, wr_ne, up_same, up_ne, Nat.reduceAdd, Int.reduceAdd, Int.reduceSub, Int.reduceMul, Int.reduceLT, Int.reduceLE, Int.reduceEq, Int.reduceNeg, Int.reduceToNat, Nat.reduceLT, Nat.reduceLeDiff, Nat.reduceEqDiff, ↓reduceIte, true_and, and_true, not_true_eq_false, not_false_eq_true, eq_self, or_true, true_or, or_false, false_or, if_true, if_false, Int.toNat_natCast, w_ite, Nat.add_zero, reduceCtorEq, ne_eq, g0, g4, this, wl_i]
theorem sp_19 (hS : ChS S h) (hD : ChD I L h rs p l st en) : XC d 19 [.ref h] (mk S I L R G) Q ↔ Q (.inl (some (.int (w (chA rs p l st en 0).2.1)))) (mk S I L R G) := by
  obtain ⟨g0, g1, g2, g3, g4, g5, g6, g7⟩ := id hS
  have := (hD.2.1 0 (Nat.zero_le _)).2.1
  simp (disch := omega) only [q_19_0, q_19_1, q_19_4, q_19_5, q_19_6, q_19_e, va_rf_s, bz_0, bz_1, bz_ok, bb_ok, Nat.add_assoc, w_lt, w_add, w_sub, w_mul, w_div, em_def, w_eq, w_inT, ↓ilt_t, ↓ilt_f, ↓ieq_t, ↓ieq_f, ntT, w_b, w_ix, kx_v, kx_n, kl_n, kl_i, kl_r, kl_o, inA_i, inA_s, inA_b, inA_z, inA_l, inA_0, inA_4, inA_5, inA_6, inA_7, inA_8, inA_9, inA_10, al_0, al_1, al_2, al_4, al_5, al_98, bsP_2, bsP_3, wr_same, wr_wr, wr_ne, up_same, up_ne, Nat.reduceAdd, Int.reduceAdd, Int.reduceSub, Int.reduceMul, Int.reduceLT, Int.reduceLE, Int.reduceEq, Int.reduceNeg, Int.reduceToNat, Nat.reduceLT, Nat.reduceLeDiff, Nat.reduceEqDiff, ↓reduceIte, true_and, and_true, not_true_eq_false, not_false_eq_true, eq_self, or_true, true_or, or_false, false_or, if_true, if_false, Int.toNat_natCast, w_ite, Nat.add_zero, reduceCtorEq, ne_eq, g0, g5, this]
theorem sumW_bd {t : Nat} (hp : p ≤ 1000) (h40 : st.length ≤ 40) (h : (chA rs p l st en 0).2.1 ≠ -1) (ht : (t : Int) ≤ (chA rs p l st en 0).2.1) : -(t : Int) ≤ sumW (chA rs p l st en) t ∧ sumW (chA rs p l st en) t ≤ 1000 * t := by
  induction t with
  | zero => unfold sumW; omega
  | succ t ih =>
    have i1 := ih (by omega)
    obtain ⟨-, -, k4⟩ := pth_ok (c := chC rs p l st en) (ls := chL rs p l st en) h40 h t (by unfold chA at ht; omega)
    obtain ⟨-, k, -, -, -, -, -, k5⟩ := k4 (by unfold chA at ht; omega)
    have hb := fstz_bd (rs := rs) (p := p) (t := strt l st en (pth (chA rs p l st en) t) k)
    have e : (chA rs p l st en (pth (chA rs p l st en) t)).2.2.2 = fstz (rd rs p (strt l st en (pth (chA rs p l st en) t) k)) := k5
    rw [sumW, e]
    omega
theorem sp_20 (hS : ChS S h) (hp : p ≤ 1000) (hD : ChD I L h rs p l st en) : XC d 20 [.ref h] (mk S I L R G) Q ↔ Q (.inl (some (.int (w (if (chA rs p l st en 0).2.1 = -1 then -1 else sumW (chA rs p l st en) (chA rs p l st en 0).2.1.toNat))))) (mk S I L R G) := by
  obtain ⟨g0, g1, g2, g3, g4, g5, g6, g7⟩ := id hS
  obtain ⟨hA, hE, -⟩ := hD
  obtain ⟨c3, cl, cs, ce, clen, c40⟩ := hA
  have h50 := (hE 0 (Nat.zero_le _)).2.1
  have hb := chE_bd (c := chC rs p l st en) (ls := chL rs p l st en) c40 st.length 0 (by omega) (Nat.zero_le _)
  have hb : -1 ≤ (chA rs p l st en 0).2.1 ∧ (chA rs p l st en 0).2.1 ≤ 40 := ⟨hb.2.2.1, by have := hb.2.2.2; unfold chA; omega⟩
  by_cases c : (chA rs p l st en 0).2.1 = -1
  · rw [if_pos c]
    rw [c] at h50
    simp (disch := omega) only [q_20_0, q_20_1, q_20_4, q_20_5, q_20_6, q_20_7, q_20_10, q_20_11, q_20_12, q_20_13, q_20_14, q_20_15, q_20_16, q_20_17, q_20_21, q_20_22, q_20_25, q_20_26, q_20_27, q_20_30, q_20_31, q_20_34, q_20_35, q_20_36, q_20_39, q_20_42, q_20_45, q_20_46, q_20_47, q_20_50, q_20_51, q_20_52, q_20_53, q_20_54, q_20_57, q_20_58, q_20_59, q_20_62, q_20_63, q_20_64, q_20_65, q_20_68, q_20_71, q_20_72, q_20_73, q_20_e, va_rf_s, bz_0, bz_1, bz_ok, bb_ok, Nat.add_assoc, w_lt, w_add, w_sub, w_mul, w_div, em_def, w_eq, w_inT, ↓ilt_t, ↓ilt_f, ↓ieq_t, ↓ieq_f, ntT, w_b, w_ix, kx_v, kx_n, kl_n, kl_i, kl_r, kl_o, inA_i, inA_s, inA_b, inA_z, inA_l, inA_0, inA_4, inA_5, inA_6, inA_7, inA_8, inA_9, inA_10, al_0, al_1, al_2, al_4, al_5, al_98, bsP_2, bsP_3, wr_same, wr_wr, wr_ne, up_same, up_ne, Nat.reduceAdd, Int.reduceAdd, Int.reduceSub, Int.reduceMul, Int.reduceLT, Int.reduceLE, Int.reduceEq, Int.reduceNeg, Int.reduceToNat, Nat.reduceLT, Nat.reduceLeDiff, Nat.reduceEqDiff, ↓reduceIte, true_and, and_true, not_true_eq_false, not_false_eq_true, eq_self, or_true, true_or, or_false, false_or, if_true, if_false, Int.toNat_natCast, w_ite, Nat.add_zero, reduceCtorEq, ne_eq, g0, g5, h50]
  · rw [if_neg c]
    have lp : ∀ (x t : Nat), (t : Int) + x = (chA rs p l st en 0).2.1 → (XX d 20 19 [some (.ref h), some (.long (wl (sumW (chA rs p l st en) t))), none, some (.int (w (pth (chA rs p l st en) t : Nat))), some (.int (w t))] [] (mk S I L R G) Q ↔ Q (.inl (some (.int (w (sumW (chA rs p l st en) (chA rs p l st en 0).2.1.toNat))))) (mk S I L R G)) := by
      intro x
      induction x with
      | zero =>
        intro t ht
        rw [q_20_19]
        simp (disch := omega) only [q_20_0, q_20_1, q_20_4, q_20_5, q_20_6, q_20_7, q_20_10, q_20_11, q_20_12, q_20_13, q_20_14, q_20_15, q_20_16, q_20_17, q_20_21, q_20_22, q_20_25, q_20_26, q_20_27, q_20_30, q_20_31, q_20_34, q_20_35, q_20_36, q_20_39, q_20_42, q_20_45, q_20_46, q_20_47, q_20_50, q_20_51, q_20_52, q_20_53, q_20_54, q_20_57, q_20_58, q_20_59, q_20_62, q_20_63, q_20_64, q_20_65, q_20_68, q_20_71, q_20_72, q_20_73, q_20_e, va_rf_s, bz_0, bz_1, bz_ok, bb_ok, Nat.add_assoc, w_lt, w_add, w_sub, w_mul, w_div, em_def, w_eq, w_inT, ↓ilt_t, ↓ilt_f, ↓ieq_t, ↓ieq_f, ntT, w_b, w_ix, kx_v, kx_n, kl_n, kl_i, kl_r, kl_o, inA_i, inA_s, inA_b, inA_z, inA_l, inA_0, inA_4, inA_5, inA_6, inA_7, inA_8, inA_9, inA_10, al_0, al_1, al_2, al_4, al_5, al_98, bsP_2, bsP_3, wr_same, wr_wr, wr_ne, up_same, up_ne, Nat.reduceAdd, Int.reduceAdd, Int.reduceSub, Int.reduceMul, Int.reduceLT, Int.reduceLE, Int.reduceEq, Int.reduceNeg, Int.reduceToNat, Nat.reduceLT, Nat.reduceLeDiff, Nat.reduceEqDiff, ↓reduceIte, true_and, and_true, not_true_eq_false, not_false_eq_true, eq_self, or_true, true_or, or_false, false_or, if_true, if_false, Int.toNat_natCast, w_ite, Nat.add_zero, reduceCtorEq, ne_eq, g0, g5, h50, wl_i]
        rw [show t = (chA rs p l st en 0).2.1.toNat by omega]
      | succ x ih =>
        intro t ht
        obtain ⟨k1, k2, k3⟩ := pth_ok (c := chC rs p l st en) (ls := chL rs p l st en) c40 c t (by unfold chA at ht; omega)
        obtain ⟨k4, k, k5, k6, k7, k8, k9, k10⟩ := k3 (by unfold chA at ht; omega)
        have hs := sumW_bd (rs := rs) (t := t) hp c40 c (by omega)
        have hs2 := sumW_bd (rs := rs) (t := t + 1) hp c40 c (by omega)
        rw [sumW] at hs2
        have en3 := (hE (pth (chA rs p l st en) t) k1).2.2 k4 (by
          show (chE (chC rs p l st en) (chL rs p l st en) st.length st.length _).2.1 ≠ -1
          unfold chA; rw [k2]; unfold chA at ht; omega)
        have hlb := fstz_bd (rs := rs) (p := p) (t := strt l st en (pth (chA rs p l st en) t) k)
        have el : (chA rs p l st en (pth (chA rs p l st en) t)).2.2.2 = fstz (rd rs p (strt l st en (pth (chA rs p l st en) t) k)) := k10
        have en6 := en3.1
        have en7 := en3.2
        have e6 : (chA rs p l st en (pth (chA rs p l st en) t)).2.2.1 = (k : Int) := k9
        have ep : pth (chA rs p l st en) (t + 1) = k := k8
        have k4' : pth (chA rs p l st en) t < st.length := k4
        have i1 := ih (t + 1) (by omega)
        rw [ep, sumW] at i1
        rw [e6] at en6
        generalize pth (chA rs p l st en) t = pt at *
        rw [el] at en7 i1 hs2
        generalize fstz (rd rs p (strt l st en pt k)) = ff0 at *
        generalize sumW (chA rs p l st en) t = sm at *
        rw [q_20_19]
        simp (disch := omega) only [q_20_0, q_20_1, q_20_4, q_20_5, q_20_6, q_20_7, q_20_10, q_20_11, q_20_12, q_20_13, q_20_14, q_20_15, q_20_16, q_20_17, q_20_21, q_20_22, q_20_25, q_20_26, q_20_27, q_20_30, q_20_31, q_20_34, q_20_35, q_20_36, q_20_39, q_20_42, q_20_45, q_20_46, q_20_47, q_20_50, q_20_51, q_20_52, q_20_53, q_20_54, q_20_57, q_20_58, q_20_59, q_20_62, q_20_63, q_20_64, q_20_65, q_20_68, q_20_71, q_20_72, q_20_73, q_20_e, va_rf_s, bz_0, bz_1, bz_ok, bb_ok, Nat.add_assoc, w_lt, w_add, w_sub, w_mul, w_div, em_def, w_eq, w_inT, ↓ilt_t, ↓ilt_f, ↓ieq_t, ↓ieq_f, ntT, w_b, w_ix, kx_v, kx_n, kl_n, kl_i, kl_r, kl_o, inA_i, inA_s, inA_b, inA_z, inA_l, inA_0, inA_4, inA_5, inA_6, inA_7, inA_8, inA_9, inA_10, al_0, al_1, al_2, al_4, al_5, al_98, bsP_2, bsP_3, wr_same, wr_wr, wr_ne, up_same, up_ne, Nat.reduceAdd, Int.reduceAdd, Int.reduceSub, Int.reduceMul, Int.reduceLT, Int.reduceLE, Int.reduceEq, Int.reduceNeg, Int.reduceToNat, Nat.reduceLT, Nat.reduceLeDiff, Nat.reduceEqDiff, ↓reduceIte, true_and, and_true, not_true_eq_false, not_false_eq_true, eq_self, or_true, true_or, or_false, false_or, if_true, if_false, Int.toNat_natCast, w_ite, Nat.add_zero, reduceCtorEq, ne_eq, g0, g5, g6, g7, c3, h50, en6, en7, w_l, wl_add, wl_lt, if_pos]
        simp only [Int.natCast_add, Int.natCast_one] at i1
        exact i1
    have := lp (chA rs p l st en 0).2.1.toNat 0 (by omega)
    simp only [Int.natCast_zero, sumW, pth] at this
    simp (disch := omega) only [q_20_0, q_20_1, q_20_4, q_20_5, q_20_6, q_20_7, q_20_10, q_20_11, q_20_12, q_20_13, q_20_14, q_20_15, q_20_16, q_20_17, q_20_21, q_20_22, q_20_25, q_20_26, q_20_27, q_20_30, q_20_31, q_20_34, q_20_35, q_20_36, q_20_39, q_20_42, q_20_45, q_20_46, q_20_47, q_20_50, q_20_51, q_20_52, q_20_53, q_20_54, q_20_57, q_20_58, q_20_59, q_20_62, q_20_63, q_20_64, q_20_65, q_20_68, q_20_71, q_20_72, q_20_73, q_20_e, va_rf_s, bz_0, bz_1, bz_ok, bb_ok, Nat.add_assoc, w_lt, w_add, w_sub, w_mul, w_div, em_def, w_eq, w_inT, ↓ilt_t, ↓ilt_f, ↓ieq_t, ↓ieq_f, ntT, w_b, w_ix, kx_v, kx_n, kl_n, kl_i, kl_r, kl_o, inA_i, inA_s, inA_b, inA_z, inA_l, inA_0, inA_4, inA_5, inA_6, inA_7, inA_8, inA_9, inA_10, al_0, al_1, al_2, al_4, al_5, al_98, bsP_2, bsP_3, wr_same, wr_wr, wr_ne, up_same, up_ne, Nat.reduceAdd, Int.reduceAdd, Int.reduceSub, Int.reduceMul, Int.reduceLT, Int.reduceLE, Int.reduceEq, Int.reduceNeg, Int.reduceToNat, Nat.reduceLT, Nat.reduceLeDiff, Nat.reduceEqDiff, ↓reduceIte, true_and, and_true, not_true_eq_false, not_false_eq_true, eq_self, or_true, true_or, or_false, false_or, if_true, if_false, Int.toNat_natCast, w_ite, Nat.add_zero, reduceCtorEq, ne_eq, g0, g5, h50]
    exact this
theorem sp_21 {k wh : Nat} (hS : ChS S h) (hD : ChD I L h rs p l st en) (hk : (k : Int) < (chA rs p l st en 0).2.1) (hwh : wh ≤ 1) : XC d 21 [.ref h, .int (w k), .int (w wh)] (mk S I L R G) Q ↔ Q (.inl (some (.int (w (if wh = 0 then (chA rs p l st en (pth (chA rs p l st en) k)).2.2.2 else (chA rs p l st en (pth (chA rs p l st en) k)).2.2.1 - pth (chA rs p l st en) k))))) (mk S I L R G) := by
  obtain ⟨g0, g1, g2, g3, g4, g5, g6, g7⟩ := id hS
  obtain ⟨hA, hE, -⟩ := hD
  obtain ⟨c3, cl, cs, ce, clen, c40⟩ := hA
  have hb := chE_bd (c := chC rs p l st en) (ls := chL rs p l st en) c40 st.length 0 (by omega) (Nat.zero_le _)
  have hb : -1 ≤ (chA rs p l st en 0).2.1 ∧ (chA rs p l st en 0).2.1 ≤ 40 := ⟨hb.2.2.1, by have := hb.2.2.2; unfold chA; omega⟩
  have c : (chA rs p l st en 0).2.1 ≠ -1 := by omega
  have fact : ∀ t : Nat, (t : Int) < (chA rs p l st en 0).2.1 → pth (chA rs p l st en) t < st.length ∧ pth (chA rs p l st en) (t + 1) ≤ st.length ∧ I (h + 6) (pth (chA rs p l st en) t) = w (pth (chA rs p l st en) (t + 1) : Nat) ∧ I (h + 7) (pth (chA rs p l st en) t) = w (chA rs p l st en (pth (chA rs p l st en) t)).2.2.2 ∧ (chA rs p l st en (pth (chA rs p l st en) t)).2.2.1 = (pth (chA rs p l st en) (t + 1) : Nat) := by
    intro t ht
    obtain ⟨k1, k2, k3⟩ := pth_ok (c := chC rs p l st en) (ls := chL rs p l st en) c40 c t (by unfold chA at ht; omega)
    obtain ⟨k4, k, k5, k6, k7, k8, k9, k10⟩ := k3 (by unfold chA at ht; omega)
    have en3 := (hE (pth (chA rs p l st en) t) k1).2.2 k4 (by
      show (chE (chC rs p l st en) (chL rs p l st en) st.length st.length _).2.1 ≠ -1
      unfold chA; rw [k2]; unfold chA at ht; omega)
    have e6 : (chA rs p l st en (pth (chA rs p l st en) t)).2.2.1 = (k : Int) := k9
    have ep : pth (chA rs p l st en) (t + 1) = k := k8
    rw [ep]
    rw [e6] at en3
    exact ⟨k4, k6, en3.1, en3.2, e6⟩
  have lp : ∀ (x t : Nat), t + x = k → (XX d 21 5 [some (.ref h), some (.int (w k)), some (.int (w wh)), some (.int (w (pth (chA rs p l st en) t : Nat))), some (.int (w t))] [] (mk S I L R G) Q ↔ Q (.inl (some (.int (w (if wh = 0 then (chA rs p l st en (pth (chA rs p l st en) k)).2.2.2 else (chA rs p l st en (pth (chA rs p l st en) k)).2.2.1 - pth (chA rs p l st en) k))))) (mk S I L R G)) := by
    intro x
    induction x with
    | zero =>
      intro t ht
      have : t = k := by omega
      subst this
      obtain ⟨f1, f2, f3, f4, f5⟩ := fact t hk
      rw [q_21_5, f5]
      simp (disch := omega) only [q_21_0, q_21_1, q_21_2, q_21_3, q_21_7, q_21_8, q_21_11, q_21_12, q_21_15, q_21_16, q_21_17, q_21_20, q_21_23, q_21_24, q_21_27, q_21_28, q_21_29, q_21_30, q_21_33, q_21_36, q_21_37, q_21_40, q_21_41, q_21_42, q_21_45, q_21_48, q_21_49, q_21_50, q_21_51, q_21_54, q_21_55, q_21_58, q_21_59, q_21_60, q_21_63, q_21_64, q_21_67, q_21_68, q_21_69, q_21_70, q_21_71, q_21_e, va_rf_s, bz_0, bz_1, bz_ok, bb_ok, Nat.add_assoc, w_lt, w_add, w_sub, w_mul, w_div, em_def, w_eq, w_inT, ↓ilt_t, ↓ilt_f, ↓ieq_t, ↓ieq_f, ntT, w_b, w_ix, kx_v, kx_n, kl_n, kl_i, kl_r, kl_o, inA_i, inA_s, inA_b, inA_z, inA_l, inA_0, inA_4, inA_5, inA_6, inA_7, inA_8, inA_9, inA_10, al_0, al_1, al_2, al_4, al_5, al_98, bsP_2, bsP_3, wr_same, wr_wr, wr_ne, up_same, up_ne, Nat.reduceAdd, Int.reduceAdd, Int.reduceSub, Int.reduceMul, Int.reduceLT, Int.reduceLE, Int.reduceEq, Int.reduceNeg, Int.reduceToNat, Nat.reduceLT, Nat.reduceLeDiff, Nat.reduceEqDiff, ↓reduceIte, true_and, and_true, not_true_eq_false, not_false_eq_true, eq_self, or_true, true_or, or_false, false_or, if_true, if_false, Int.toNat_natCast, w_ite, Nat.add_zero, reduceCtorEq, ne_eq, g0, g6, g7, c3, f3, f4]
      by_cases cw : wh = 0
      · rw [if_pos (by omega), if_pos cw]
      · rw [if_neg (by omega), if_neg cw]
    | succ x ih =>
      intro t ht
      obtain ⟨f1, f2, f3, f4, f5⟩ := fact t (by omega)
      rw [q_21_5]
      simp (disch := omega) only [q_21_0, q_21_1, q_21_2, q_21_3, q_21_7, q_21_8, q_21_11, q_21_12, q_21_15, q_21_16, q_21_17, q_21_20, q_21_23, q_21_24, q_21_27, q_21_28, q_21_29, q_21_30, q_21_33, q_21_36, q_21_37, q_21_40, q_21_41, q_21_42, q_21_45, q_21_48, q_21_49, q_21_50, q_21_51, q_21_54, q_21_55, q_21_58, q_21_59, q_21_60, q_21_63, q_21_64, q_21_67, q_21_68, q_21_69, q_21_70, q_21_71, q_21_e, va_rf_s, bz_0, bz_1, bz_ok, bb_ok, Nat.add_assoc, w_lt, w_add, w_sub, w_mul, w_div, em_def, w_eq, w_inT, ↓ilt_t, ↓ilt_f, ↓ieq_t, ↓ieq_f, ntT, w_b, w_ix, kx_v, kx_n, kl_n, kl_i, kl_r, kl_o, inA_i, inA_s, inA_b, inA_z, inA_l, inA_0, inA_4, inA_5, inA_6, inA_7, inA_8, inA_9, inA_10, al_0, al_1, al_2, al_4, al_5, al_98, bsP_2, bsP_3, wr_same, wr_wr, wr_ne, up_same, up_ne, Nat.reduceAdd, Int.reduceAdd, Int.reduceSub, Int.reduceMul, Int.reduceLT, Int.reduceLE, Int.reduceEq, Int.reduceNeg, Int.reduceToNat, Nat.reduceLT, Nat.reduceLeDiff, Nat.reduceEqDiff, ↓reduceIte, true_and, and_true, not_true_eq_false, not_false_eq_true, eq_self, or_true, true_or, or_false, false_or, if_true, if_false, Int.toNat_natCast, w_ite, Nat.add_zero, reduceCtorEq, ne_eq, g0, g6, g7, c3, f3]
      have := ih (t + 1) (by omega)
      simp only [Int.natCast_add, Int.natCast_one] at this
      exact this
  have := lp k 0 (by omega)
  simp only [Int.natCast_zero, pth] at this
  simp (disch := omega) only [q_21_0, q_21_1, q_21_2, q_21_3, q_21_7, q_21_8, q_21_11, q_21_12, q_21_15, q_21_16, q_21_17, q_21_20, q_21_23, q_21_24, q_21_27, q_21_28, q_21_29, q_21_30, q_21_33, q_21_36, q_21_37, q_21_40, q_21_41, q_21_42, q_21_45, q_21_48, q_21_49, q_21_50, q_21_51, q_21_54, q_21_55, q_21_58, q_21_59, q_21_60, q_21_63, q_21_64, q_21_67, q_21_68, q_21_69, q_21_70, q_21_71, q_21_e, va_rf_s, bz_0, bz_1, bz_ok, bb_ok, Nat.add_assoc, w_lt, w_add, w_sub, w_mul, w_div, em_def, w_eq, w_inT, ↓ilt_t, ↓ilt_f, ↓ieq_t, ↓ieq_f, ntT, w_b, w_ix, kx_v, kx_n, kl_n, kl_i, kl_r, kl_o, inA_i, inA_s, inA_b, inA_z, inA_l, inA_0, inA_4, inA_5, inA_6, inA_7, inA_8, inA_9, inA_10, al_0, al_1, al_2, al_4, al_5, al_98, bsP_2, bsP_3, wr_same, wr_wr, wr_ne, up_same, up_ne, Nat.reduceAdd, Int.reduceAdd, Int.reduceSub, Int.reduceMul, Int.reduceLT, Int.reduceLE, Int.reduceEq, Int.reduceNeg, Int.reduceToNat, Nat.reduceLT, Nat.reduceLeDiff, Nat.reduceEqDiff, ↓reduceIte, true_and, and_true, not_true_eq_false, not_false_eq_true, eq_self, or_true, true_or, or_false, false_or, if_true, if_false, Int.toNat_natCast, w_ite, Nat.add_zero, reduceCtorEq, ne_eq]
  exact this
end
end

/-! the ranking's array is sorted so -/
def zl (L : List Nat) : List Int := L.map (fun n : Nat => (n : Int))
theorem zl_len {L : List Nat} : (zl L).length = L.length := by unfold zl; rw [List.length_map]
theorem zl_get {L : List Nat} {i : Nat} : (zl L).getD i 0 = (L.getD i 0 : Int) := by
  unfold zl
  rw [List.getD_eq_getElem?_getD, List.getD_eq_getElem?_getD, List.getElem?_map]
  cases L[i]? <;> rfl
theorem pw_cons {f : Nat → Int32} {p : Nat} {x : Int} {s : List Int} : pw (up f p (w x)) (p + 1) s = pw f p (x :: s) := by
  funext j
  unfold pw up
  rw [List.length_cons]
  by_cases h : j = p
  · subst h
    rw [if_neg (by omega), if_pos rfl, if_pos (by omega), Nat.sub_self]; rfl
  · rw [if_neg h]
    by_cases h2 : p + 1 ≤ j ∧ j < p + 1 + s.length
    · rw [if_pos h2, if_pos (by omega), show j - p = (j - (p + 1)) + 1 by omega]; rfl
    · rw [if_neg h2, if_neg (by omega)]
theorem pw_app {f : Nat → Int32} {p : Nat} {s t : List Int} : pw (pw f p s) (p + s.length) t = pw f p (s ++ t) := by
  funext j
  unfold pw
  rw [List.length_append]
  by_cases h : p ≤ j ∧ j < p + s.length
  · rw [if_neg (by omega), if_pos h, if_pos (by omega), List.getD_eq_getElem?_getD, List.getD_eq_getElem?_getD, List.getElem?_append_left (by omega)]
  · by_cases h2 : p + s.length ≤ j ∧ j < p + s.length + t.length
    · rw [if_pos h2, if_pos (by omega), List.getD_eq_getElem?_getD, List.getD_eq_getElem?_getD, List.getElem?_append_right (by omega), show j - p - s.length = j - (p + s.length) by omega]
    · rw [if_neg h2, if_neg h, if_neg (by omega)]
theorem Txt.head {f : Nat → Int32} {p : Nat} {x : Int} {s : List Int} (h : Txt f p (x :: s)) : f p = w x ∧ Txt f (p + 1) s := by
  refine ⟨h 0 (by simp), fun i hi => ?_⟩
  have := h (i + 1) (by simpa using hi)
  rw [show p + 1 + i = p + (i + 1) by omega, this]; rfl
theorem Txt.drop {f : Nat → Int32} {p : Nat} {s : List Int} (h : Txt f p s) (k : Nat) : Txt f (p + k) (s.drop k) := by
  intro i hi
  rw [List.length_drop] at hi
  rw [Nat.add_assoc, h (k + i) (by omega), List.getD_eq_getElem?_getD, List.getD_eq_getElem?_getD, List.getElem?_drop]
theorem Txt.take {f : Nat → Int32} {p : Nat} {s : List Int} (h : Txt f p s) (k : Nat) : Txt f p (s.take k) := by
  intro i hi
  rw [List.length_take] at hi
  rw [h i (by omega), List.getD_eq_getElem?_getD, List.getD_eq_getElem?_getD, List.getElem?_take_of_lt (by omega)]
def RankS (S : SH) (k : Nat) : Prop := S k = some (.inr 5) ∧ VoiS S (k + 1) ∧ S (k + 18) = some (.inl (0, 1001)) ∧ S (k + 19) = some (.inl (0, 1001))
theorem VoiS.facts {S : SH} {v : Nat} (h : VoiS S v) : S v = some (.inr 9) ∧ S (v + 1) = some (.inr 4) ∧ S (v + 2) = some (.inl (2, 115200)) ∧ S (v + 3) = some (.inl (0, 1152)) := ⟨h.1, h.2.1.1, h.2.1.2.1, h.2.1.2.2.1⟩
section
variable {d : Nat} {Q : XO → Hp → Prop} {S : SH} {I : MI} {L : ML} {R : MR} {G : MG} {A : Hp}
variable {k : Nat}
theorem sp_46 {a b : Nat} {s t : List Int} (hK : RankS S k) (ha : a ≤ 1000) (hb : b ≤ 1000) (hs : Sd I (k + 1) a s) (ht : Sd I (k + 1) b t) : XC (d + 2) 46 [.ref k, .int (w a), .int (w b)] (mk S I L R G) Q ↔ Q (.inl (some (.int (w (lexc s t))))) (mk S I L R G) := by
  obtain ⟨g0, g1, g2, g3⟩ := hK
  obtain ⟨v0, v1, v2, v3⟩ := g1.facts
  simp only [Nat.add_assoc, Nat.reduceAdd] at v1 v2 v3
  have s31 := fun {d : Nat} {Q : XO → Hp → Prop} => sp_31 (d := d) (Q := Q) (I := I) (L := L) (R := R) (G := G) g1.2.1 (n := (a : Int)) (by omega) (by omega)
  have s31' := fun {d : Nat} {Q : XO → Hp → Prop} => sp_31 (d := d) (Q := Q) (I := I) (L := L) (R := R) (G := G) g1.2.1 (n := (b : Int)) (by omega) (by omega)
  have s32 := fun {d : Nat} {Q : XO → Hp → Prop} => sp_32t (d := d) (Q := Q) (L := L) (R := R) (G := G) g1.2.1 (n := (a : Int)) (by omega) (by omega) hs
  have s32' := fun {d : Nat} {Q : XO → Hp → Prop} => sp_32t (d := d) (Q := Q) (L := L) (R := R) (G := G) g1.2.1 (n := (b : Int)) (by omega) (by omega) ht
  have ca : slot a * 100 = ((sl a * 100 : Nat) : Int) := by rw [Int.natCast_mul, sl_c]; rfl
  have cb : slot b * 100 = ((sl b * 100 : Nat) : Int) := by rw [Int.natCast_mul, sl_c]; rfl
  have la := sl_bd a
  have lb := sl_bd b
  have s151 := fun {d : Nat} {Q : XO → Hp → Prop} => sp_cmp (d := d) (Q := Q) (I := I) (L := L) (R := R) (G := G) (p := sl a * 100) (q := sl b * 100) (s := s) (t := t) v2 v2 (by decide) (by decide) (by have := hs.2.2.1; omega) (by have := ht.2.2.1; omega) hs.2.2.2.1 ht.2.2.2.1
  simp only [Nat.add_assoc, Nat.reduceAdd] at s31 s31' s32 s32' s151
  simp (disch := omega) only [q_46_0, q_46_1, q_46_4, q_46_7, q_46_8, q_46_9, q_46_12, q_46_13, q_46_14, q_46_17, q_46_18, q_46_19, q_46_22, q_46_23, q_46_26, q_46_27, q_46_28, q_46_31, q_46_32, q_46_33, q_46_36, q_46_39, q_46_e, va_rf_s, bz_0, bz_1, bz_ok, bb_ok, Nat.add_assoc, w_lt, w_add, w_sub, w_mul, w_div, em_def, w_eq, w_inT, ↓ilt_t, ↓ilt_f, ↓ieq_t, ↓ieq_f, ntT, w_b, w_ix, kx_v, kx_n, kl_n, kl_i, kl_r, kl_o, inA_i, inA_s, inA_b, inA_z, inA_l, inA_0, inA_4, inA_5, inA_6, inA_7, inA_8, inA_9, inA_10, al_0, al_1, al_2, al_4, al_5, al_98, bsP_2, bsP_3, wr_same, wr_wr, wr_ne, up_same, up_ne, Nat.reduceAdd, Int.reduceAdd, Int.reduceSub, Int.reduceMul, Int.reduceLT, Int.reduceLE, Int.reduceEq, Int.reduceNeg, Int.reduceToNat, Nat.reduceLT, Nat.reduceLeDiff, Nat.reduceEqDiff, ↓reduceIte, true_and, and_true, not_true_eq_false, not_false_eq_true, eq_self, or_true, true_or, or_false, false_or, if_true, if_false, Int.toNat_natCast, w_ite, Nat.add_zero, reduceCtorEq, ne_eq, g0, v0, v1, v2, s31, s31', s32, s32', ca, cb, s151]
theorem sp_47 {i : Int} {L' : List Nat} (hK : RankS S k) (h3 : I k 3 = w L'.length) (hL : L'.length ≤ 1001) (hT : Txt (I (k + 18)) 0 (zl L')) (i1 : -2147483648 ≤ i) (i2 : i < 2147483648) : XC d 47 [.ref k, .int (w i)] (mk S I L R G) Q ↔ Q (.inl (some (.int (w (if 0 ≤ i ∧ i < L'.length then (L'.getD i.toNat 0 : Int) else -1))))) (mk S I L R G) := by
  obtain ⟨g0, g1, g2, g3⟩ := hK
  simp (disch := omega) only [q_47_0, q_47_1, q_47_4, q_47_5, q_47_6, q_47_9, q_47_12, q_47_16, q_47_17, q_47_18, q_47_21, q_47_22, q_47_e, va_rf_s, bz_0, bz_1, bz_ok, bb_ok, Nat.add_assoc, w_lt, w_add, w_sub, w_mul, w_div, em_def, w_eq, w_inT, ↓ilt_t, ↓ilt_f, ↓ieq_t, ↓ieq_f, ntT, w_b, w_ix, kx_v, kx_n, kl_n, kl_i, kl_r, kl_o, inA_i, inA_s, inA_b, inA_z, inA_l, inA_0, inA_4, inA_5, inA_6, inA_7, inA_8, inA_9, inA_10, al_0, al_1, al_2, al_4, al_5, al_98, bsP_2, bsP_3, wr_same, wr_wr, wr_ne, up_same, up_ne, Nat.reduceAdd, Int.reduceAdd, Int.reduceSub, Int.reduceMul, Int.reduceLT, Int.reduceLE, Int.reduceEq, Int.reduceNeg, Int.reduceToNat, Nat.reduceLT, Nat.reduceLeDiff, Nat.reduceEqDiff, ↓reduceIte, true_and, and_true, not_true_eq_false, not_false_eq_true, eq_self, or_true, true_or, or_false, false_or, if_true, if_false, Int.toNat_natCast, w_ite, Nat.add_zero, reduceCtorEq, ne_eq, g0, h3]
  by_cases c1 : i < 0
  · rw [if_pos c1, if_neg (by omega)]
  · rw [if_neg c1]
    by_cases c2 : i < L'.length
    · have := hT i.toNat (by rw [zl_len]; omega)
      rw [zl_get, Nat.zero_add] at this
      rw [if_pos c2, if_pos (by omega)]
      simp (disch := omega) only [q_47_0, q_47_1, q_47_4, q_47_5, q_47_6, q_47_9, q_47_12, q_47_13, q_47_16, q_47_17, q_47_18, q_47_21, q_47_22, q_47_e, va_rf_s, bz_0, bz_1, bz_ok, bb_ok, Nat.add_assoc, w_lt, w_add, w_sub, w_mul, w_div, em_def, w_eq, w_inT, ↓ilt_t, ↓ilt_f, ↓ieq_t, ↓ieq_f, ntT, w_b, w_ix, kx_v, kx_n, kl_n, kl_i, kl_r, kl_o, inA_i, inA_s, inA_b, inA_z, inA_l, inA_0, inA_4, inA_5, inA_6, inA_7, inA_8, inA_9, inA_10, al_0, al_1, al_2, al_4, al_5, al_98, bsP_2, bsP_3, wr_same, wr_wr, wr_ne, up_same, up_ne, Nat.reduceAdd, Int.reduceAdd, Int.reduceSub, Int.reduceMul, Int.reduceLT, Int.reduceLE, Int.reduceEq, Int.reduceNeg, Int.reduceToNat, Nat.reduceLT, Nat.reduceLeDiff, Nat.reduceEqDiff, ↓reduceIte, true_and, and_true, not_true_eq_false, not_false_eq_true, eq_self, or_true, true_or, or_false, false_or, if_true, if_false, Int.toNat_natCast, w_ite, Nat.add_zero, reduceCtorEq, ne_eq, g0, g2, this]
    · rw [if_neg c2, if_neg (by omega)]
theorem sp_45 {tx : Nat → List Int} {fr : Int} (hK : RankS S k) : ∀ (N : Nat) (xs ys : List Nat) (l r i : Nat) (g : Nat → Int32) (o : Option Value), xs.length + ys.length = N → (∀ n ∈ xs, n ≤ 1000 ∧ Sd I (k + 1) n (tx n)) → (∀ n ∈ ys, n ≤ 1000 ∧ Sd I (k + 1) n (tx n)) → Txt (I (k + 18)) l (zl xs) → Txt (I (k + 18)) r (zl ys) → l + xs.length ≤ 1001 → r + ys.length ≤ 1001 → i + xs.length + ys.length = r + ys.length →
    (XX (d + 3) 45 9 [some (.ref k), some (.int (w fr)), some (.int (w ((l + xs.length : Nat) : Int))), some (.int (w ((r + ys.length : Nat) : Int))), some (.int (w l)), some (.int (w r)), some (.int (w i)), o] [] (mk S (wr I (k + 19) g) L R G) Q ↔ Q (.inl none) (mk S (wr I (k + 19) (pw g i (zl (mg (kle tx) xs ys)))) L R G)) := by
  obtain ⟨g0, g1, g2, g3⟩ := id hK
  intro N
  induction N with
  | zero =>
    intro xs ys l r i g o hN hx hy tx1 ty1 b1 b2 b3
    have e1 : xs = [] := List.eq_nil_of_length_eq_zero (by omega)
    have e2 : ys = [] := List.eq_nil_of_length_eq_zero (by omega)
    subst e1 e2
    simp only [List.length_nil, Nat.add_zero] at *
    rw [q_45_9, mg_nil]
    simp (disch := omega) only [q_45_0, q_45_1, q_45_3, q_45_4, q_45_6, q_45_7, q_45_11, q_45_12, q_45_15, q_45_17, q_45_18, q_45_21, q_45_23, q_45_24, q_45_27, q_45_28, q_45_29, q_45_32, q_45_34, q_45_35, q_45_36, q_45_39, q_45_41, q_45_42, q_45_45, q_45_48, q_45_49, q_45_52, q_45_53, q_45_55, q_45_57, q_45_60, q_45_61, q_45_64, q_45_66, q_45_67, q_45_70, q_45_72, q_45_73, q_45_74, q_45_77, q_45_80, q_45_81, q_45_84, q_45_86, q_45_87, q_45_90, q_45_92, q_45_93, q_45_94, q_45_97, q_45_100, q_45_103, q_45_e, va_rf_s, bz_0, bz_1, bz_ok, bb_ok, Nat.add_assoc, w_lt, w_add, w_sub, w_mul, w_div, em_def, w_eq, w_inT, ↓ilt_t, ↓ilt_f, ↓ieq_t, ↓ieq_f, ntT, w_b, w_ix, kx_v, kx_n, kl_n, kl_i, kl_r, kl_o, inA_i, inA_s, inA_b, inA_z, inA_l, inA_0, inA_4, inA_5, inA_6, inA_7, inA_8, inA_9, inA_10, al_0, al_1, al_2, al_4, al_5, al_98, bsP_2, bsP_3, wr_same, wr_wr, wr_ne, up_same, up_ne, Nat.reduceAdd, Int.reduceAdd, Int.reduceSub, Int.reduceMul, Int.reduceLT, Int.reduceLE, Int.reduceEq, Int.reduceNeg, Int.reduceToNat, Nat.reduceLT, Nat.reduceLeDiff, Nat.reduceEqDiff, ↓reduceIte, true_and, and_true, not_true_eq_false, not_false_eq_true, eq_self, or_true, true_or, or_false, false_or, if_true, if_false, Int.toNat_natCast, w_ite, Nat.add_zero, reduceCtorEq, ne_eq]
    rw [show zl [] = [] from rfl, pw_nil]
  | succ N ih =>
    intro xs ys l r i g o hN hx hy tx1 ty1 b1 b2 b3
    have hcong : ∀ n t, Sd I (k + 1) n t → Sd (wr I (k + 19) g) (k + 1) n t := by
      intro n t h
      unfold Sd Kn at *
      rw [gi_ne (by omega), gi_ne (by omega), wr_ne (by omega)]
      exact h
    -- take the left one
    have tl : ∀ x xs', xs = x :: xs' → mg (kle tx) xs ys = x :: mg (kle tx) xs' ys → (XX (d + 3) 45 53 [some (.ref k), some (.int (w fr)), some (.int (w ((l + xs.length : Nat) : Int))), some (.int (w ((r + ys.length : Nat) : Int))), some (.int (w l)), some (.int (w r)), some (.int (w i)), o] [.int (w 1)] (mk S (wr I (k + 19) g) L R G) Q ↔ Q (.inl none) (mk S (wr I (k + 19) (pw g i (zl (mg (kle tx) xs ys)))) L R G)) := by
      intro x xs' e em
      rw [em]
      subst e
      rw [List.length_cons] at hN b1 b3
      have t1 := tx1.head
      have := ih xs' ys (l + 1) r (i + 1) (up g i (w x)) (some (.int (w 1))) (by omega) (fun n hn => hx n (List.mem_cons_of_mem _ hn)) hy t1.2 ty1 (by omega) b2 (by omega)
      rw [pw_cons, show l + 1 + xs'.length = l + (x :: xs').length by rw [List.length_cons]; omega] at this
      simp only [Int.natCast_add, Int.natCast_one] at this
      have e18 : I (k + 18) l = w x := t1.1
      simp (disch := omega) only [q_45_0, q_45_1, q_45_3, q_45_4, q_45_6, q_45_7, q_45_11, q_45_12, q_45_15, q_45_17, q_45_18, q_45_21, q_45_23, q_45_24, q_45_27, q_45_28, q_45_29, q_45_32, q_45_34, q_45_35, q_45_36, q_45_39, q_45_41, q_45_42, q_45_45, q_45_48, q_45_49, q_45_52, q_45_53, q_45_55, q_45_57, q_45_60, q_45_61, q_45_64, q_45_66, q_45_67, q_45_70, q_45_72, q_45_73, q_45_74, q_45_77, q_45_80, q_45_81, q_45_84, q_45_86, q_45_87, q_45_90, q_45_92, q_45_93, q_45_94, q_45_97, q_45_100, q_45_103, q_45_e, va_rf_s, bz_0, bz_1, bz_ok, bb_ok, Nat.add_assoc, w_lt, w_add, w_sub, w_mul, w_div, em_def, w_eq, w_inT, ↓ilt_t, ↓ilt_f, ↓ieq_t, ↓ieq_f, ntT, w_b, w_ix, kx_v, kx_n, kl_n, kl_i, kl_r, kl_o, inA_i, inA_s, inA_b, inA_z, inA_l, inA_0, inA_4, inA_5, inA_6, inA_7, inA_8, inA_9, inA_10, al_0, al_1, al_2, al_4, al_5, al_98, bsP_2, bsP_3, wr_same, wr_wr, wr_ne, up_same, up_ne, Nat.reduceAdd, Int.reduceAdd, Int.reduceSub, Int.reduceMul, Int.reduceLT, Int.reduceLE, Int.reduceEq, Int.reduceNeg, Int.reduceToNat, Nat.reduceLT, Nat.reduceLeDiff, Nat.reduceEqDiff, ↓reduceIte, true_and, and_true, not_true_eq_false, not_false_eq_true, eq_self, or_true, true_or, or_false, false_or, if_true, if_false, Int.toNat_natCast, w_ite, Nat.add_zero, reduceCtorEq, ne_eq, g0, g2, g3, e18, Int.natCast_add]
      exact this
    have tr : ∀ y ys', ys = y :: ys' → mg (kle tx) xs ys = y :: mg (kle tx) xs ys' → (XX (d + 3) 45 53 [some (.ref k), some (.int (w fr)), some (.int (w ((l + xs.length : Nat) : Int))), some (.int (w ((r + ys.length : Nat) : Int))), some (.int (w l)), some (.int (w r)), some (.int (w i)), o] [.int (w 0)] (mk S (wr I (k + 19) g) L R G) Q ↔ Q (.inl none) (mk S (wr I (k + 19) (pw g i (zl (mg (kle tx) xs ys)))) L R G)) := by
      intro y ys' e em
      rw [em]
      subst e
      rw [List.length_cons] at hN b2 b3
      have t1 := ty1.head
      have := ih xs ys' l (r + 1) (i + 1) (up g i (w y)) (some (.int (w 0))) (by omega) hx (fun n hn => hy n (List.mem_cons_of_mem _ hn)) tx1 t1.2 b1 (by omega) (by omega)
      rw [pw_cons, show r + 1 + ys'.length = r + (y :: ys').length by rw [List.length_cons]; omega] at this
      simp only [Int.natCast_add, Int.natCast_one] at this
      have e18 : I (k + 18) r = w y := t1.1
      simp (disch := omega) only [q_45_0, q_45_1, q_45_3, q_45_4, q_45_6, q_45_7, q_45_11, q_45_12, q_45_15, q_45_17, q_45_18, q_45_21, q_45_23, q_45_24, q_45_27, q_45_28, q_45_29, q_45_32, q_45_34, q_45_35, q_45_36, q_45_39, q_45_41, q_45_42, q_45_45, q_45_48, q_45_49, q_45_52, q_45_53, q_45_55, q_45_57, q_45_60, q_45_61, q_45_64, q_45_66, q_45_67, q_45_70, q_45_72, q_45_73, q_45_74, q_45_77, q_45_80, q_45_81, q_45_84, q_45_86, q_45_87, q_45_90, q_45_92, q_45_93, q_45_94, q_45_97, q_45_100, q_45_103, q_45_e, va_rf_s, bz_0, bz_1, bz_ok, bb_ok, Nat.add_assoc, w_lt, w_add, w_sub, w_mul, w_div, em_def, w_eq, w_inT, ↓ilt_t, ↓ilt_f, ↓ieq_t, ↓ieq_f, ntT, w_b, w_ix, kx_v, kx_n, kl_n, kl_i, kl_r, kl_o, inA_i, inA_s, inA_b, inA_z, inA_l, inA_0, inA_4, inA_5, inA_6, inA_7, inA_8, inA_9, inA_10, al_0, al_1, al_2, al_4, al_5, al_98, bsP_2, bsP_3, wr_same, wr_wr, wr_ne, up_same, up_ne, Nat.reduceAdd, Int.reduceAdd, Int.reduceSub, Int.reduceMul, Int.reduceLT, Int.reduceLE, Int.reduceEq, Int.reduceNeg, Int.reduceToNat, Nat.reduceLT, Nat.reduceLeDiff, Nat.reduceEqDiff, ↓reduceIte, true_and, and_true, not_true_eq_false, not_false_eq_true, eq_self, or_true, true_or, or_false, false_or, if_true, if_false, Int.toNat_natCast, w_ite, Nat.add_zero, reduceCtorEq, ne_eq, g0, g2, g3, e18, Int.natCast_add]
      exact this
    rw [q_45_9]
    cases ys with
    | nil =>
      cases xs with
      | nil => simp at hN
      | cons x xs' =>
        have := tl x xs' rfl (by rw [mg_nil2, mg_nil2])
        simp only [List.length_cons, List.length_nil, Nat.add_zero] at *
        simp (disch := omega) only [q_45_0, q_45_1, q_45_3, q_45_4, q_45_6, q_45_7, q_45_11, q_45_12, q_45_15, q_45_17, q_45_18, q_45_21, q_45_23, q_45_24, q_45_27, q_45_28, q_45_29, q_45_32, q_45_34, q_45_35, q_45_36, q_45_39, q_45_41, q_45_42, q_45_45, q_45_48, q_45_49, q_45_52, q_45_55, q_45_57, q_45_60, q_45_61, q_45_64, q_45_66, q_45_67, q_45_70, q_45_72, q_45_73, q_45_74, q_45_77, q_45_80, q_45_81, q_45_84, q_45_86, q_45_87, q_45_90, q_45_92, q_45_93, q_45_94, q_45_97, q_45_100, q_45_103, q_45_e, va_rf_s, bz_0, bz_1, bz_ok, bb_ok, Nat.add_assoc, w_lt, w_add, w_sub, w_mul, w_div, em_def, w_eq, w_inT, ↓ilt_t, ↓ilt_f, ↓ieq_t, ↓ieq_f, ntT, w_b, w_ix, kx_v, kx_n, kl_n, kl_i, kl_r, kl_o, inA_i, inA_s, inA_b, inA_z, inA_l, inA_0, inA_4, inA_5, inA_6, inA_7, inA_8, inA_9, inA_10, al_0, al_1, al_2, al_4, al_5, al_98, bsP_2, bsP_3, wr_same, wr_wr, wr_ne, up_same, up_ne, Nat.reduceAdd, Int.reduceAdd, Int.reduceSub, Int.reduceMul, Int.reduceLT, Int.reduceLE, Int.reduceEq, Int.reduceNeg, Int.reduceToNat, Nat.reduceLT, Nat.reduceLeDiff, Nat.reduceEqDiff, ↓reduceIte, true_and, and_true, not_true_eq_false, not_false_eq_true, eq_self, or_true, true_or, or_false, false_or, if_true, if_false, Int.toNat_natCast, w_ite, Nat.add_zero, reduceCtorEq, ne_eq]
        exact this
    | cons y ys' =>
      cases xs with
      | nil =>
        have := tr y ys' rfl (by rw [mg_nil, mg_nil])
        simp only [List.length_cons, List.length_nil, Nat.add_zero] at *
        simp (disch := omega) only [q_45_0, q_45_1, q_45_3, q_45_4, q_45_6, q_45_7, q_45_11, q_45_12, q_45_15, q_45_17, q_45_18, q_45_21, q_45_23, q_45_24, q_45_27, q_45_28, q_45_29, q_45_32, q_45_34, q_45_35, q_45_36, q_45_39, q_45_41, q_45_42, q_45_45, q_45_48, q_45_49, q_45_52, q_45_55, q_45_57, q_45_60, q_45_61, q_45_64, q_45_66, q_45_67, q_45_70, q_45_72, q_45_73, q_45_74, q_45_77, q_45_80, q_45_81, q_45_84, q_45_86, q_45_87, q_45_90, q_45_92, q_45_93, q_45_94, q_45_97, q_45_100, q_45_103, q_45_e, va_rf_s, bz_0, bz_1, bz_ok, bb_ok, Nat.add_assoc, w_lt, w_add, w_sub, w_mul, w_div, em_def, w_eq, w_inT, ↓ilt_t, ↓ilt_f, ↓ieq_t, ↓ieq_f, ntT, w_b, w_ix, kx_v, kx_n, kl_n, kl_i, kl_r, kl_o, inA_i, inA_s, inA_b, inA_z, inA_l, inA_0, inA_4, inA_5, inA_6, inA_7, inA_8, inA_9, inA_10, al_0, al_1, al_2, al_4, al_5, al_98, bsP_2, bsP_3, wr_same, wr_wr, wr_ne, up_same, up_ne, Nat.reduceAdd, Int.reduceAdd, Int.reduceSub, Int.reduceMul, Int.reduceLT, Int.reduceLE, Int.reduceEq, Int.reduceNeg, Int.reduceToNat, Nat.reduceLT, Nat.reduceLeDiff, Nat.reduceEqDiff, ↓reduceIte, true_and, and_true, not_true_eq_false, not_false_eq_true, eq_self, or_true, true_or, or_false, false_or, if_true, if_false, Int.toNat_natCast, w_ite, Nat.add_zero, reduceCtorEq, ne_eq]
        exact this
      | cons x xs' =>
        have hsx := hx x (List.mem_cons_self ..)
        have hsy := hy y (List.mem_cons_self ..)
        have s46 := fun {d : Nat} {Q : XO → Hp → Prop} => sp_46 (d := d) (Q := Q) (L := L) (R := R) (G := G) hK hsx.1 hsy.1 (hcong _ _ hsx.2) (hcong _ _ hsy.2)
        have hlb := lexc_bd (tx x) (tx y)
        have l1 := hsx.2.2.2.1
        have l2 := hsy.2.2.2.1
        have e1 : I (k + 18) l = w x := tx1.head.1
        have e2 : I (k + 18) r = w y := ty1.head.1
        have tl' := tl x xs' rfl
        have tr' := tr y ys' rfl
        rw [mg_cons] at tl' tr' ⊢
        simp only [List.length_cons] at *
        simp (disch := omega) only [q_45_0, q_45_1, q_45_3, q_45_4, q_45_6, q_45_7, q_45_11, q_45_12, q_45_15, q_45_17, q_45_18, q_45_21, q_45_23, q_45_24, q_45_27, q_45_28, q_45_29, q_45_32, q_45_34, q_45_35, q_45_36, q_45_39, q_45_41, q_45_42, q_45_45, q_45_48, q_45_49, q_45_52, q_45_55, q_45_57, q_45_60, q_45_61, q_45_64, q_45_66, q_45_67, q_45_70, q_45_72, q_45_73, q_45_74, q_45_77, q_45_80, q_45_81, q_45_84, q_45_86, q_45_87, q_45_90, q_45_92, q_45_93, q_45_94, q_45_97, q_45_100, q_45_103, q_45_e, va_rf_s, bz_0, bz_1, bz_ok, bb_ok, Nat.add_assoc, w_lt, w_add, w_sub, w_mul, w_div, em_def, w_eq, w_inT, ↓ilt_t, ↓ilt_f, ↓ieq_t, ↓ieq_f, ntT, w_b, w_ix, kx_v, kx_n, kl_n, kl_i, kl_r, kl_o, inA_i, inA_s, inA_b, inA_z, inA_l, inA_0, inA_4, inA_5, inA_6, inA_7, inA_8, inA_9, inA_10, al_0, al_1, al_2, al_4, al_5, al_98, bsP_2, bsP_3, wr_same, wr_wr, wr_ne, up_same, up_ne, Nat.reduceAdd, Int.reduceAdd, Int.reduceSub, Int.reduceMul, Int.reduceLT, Int.reduceLE, Int.reduceEq, Int.reduceNeg, Int.reduceToNat, Nat.reduceLT, Nat.reduceLeDiff, Nat.reduceEqDiff, ↓reduceIte, true_and, and_true, not_true_eq_false, not_false_eq_true, eq_self, or_true, true_or, or_false, false_or, if_true, if_false, Int.toNat_natCast, w_ite, Nat.add_zero, reduceCtorEq, ne_eq, g0, g2, e1, e2, s46]
        by_cases c : lexc (tx x) (tx y) ≤ 0
        · have ck : kle (tx) x y = true := by unfold kle; exact decide_eq_true c
          rw [if_pos ck] at tl' ⊢
          rw [if_neg (by omega)]
          exact tl' rfl
        · have ck : ¬ kle (tx) x y = true := by unfold kle; simpa using c
          rw [if_neg ck] at tr' ⊢
          rw [if_pos (by omega)]
          exact tr' rfl
end

/-! a text to be heard is cut into its words -/
def isl (b : Int) : Bool := decide (97 ≤ b) && decide (b ≤ 122)
/-- what an int keeps as a byte with a sign -/
def sb (b : Int) : Int := if b < 128 then b else b - 256
def spl : List Int → Bool → List Int → List Nat → List Nat → Option (List Int × List Nat × List Nat)
  | [], _, l, st, en => some (l, st, en)
  | b :: r, inW, l, st, en =>
    if isl b = true then
      (if inW = true then spl r true (l ++ [b]) st (en.dropLast ++ [l.length + 1])
       else if 40 ≤ st.length then none
       else spl r true ((if st = [] then l else l ++ [32]) ++ [b]) (st ++ [(if st = [] then l else l ++ [32]).length]) (en ++ [(if st = [] then l else l ++ [32]).length + 1]))
    else if b = 32 then spl r false l st en else none
def ChS (S : SH) (h : Nat) : Prop := S h = some (.inr 2) ∧ S (h + 1) = some (.inl (2, 400)) ∧ S (h + 2) = some (.inl (0, 40)) ∧ S (h + 3) = some (.inl (0, 40)) ∧ S (h + 4) = some (.inl (1, 41)) ∧ S (h + 5) = some (.inl (0, 41)) ∧ S (h + 6) = some (.inl (0, 41)) ∧ S (h + 7) = some (.inl (0, 41))
/-- the chart holds a line and its words -/
def ChAt (I : MI) (h : Nat) (l : List Int) (st en : List Nat) : Prop := I h 3 = w st.length ∧ Txt (I (h + 1)) 0 l ∧ Txt (I (h + 2)) 0 (zl st) ∧ Txt (I (h + 3)) 0 (zl en) ∧ st.length = en.length ∧ st.length ≤ 40
theorem isl_sb {b : Int} (h0 : 0 ≤ b) (h1 : b < 256) : isl (sb b) = isl b := by
  unfold isl sb
  split
  · rfl
  · rw [decide_eq_false (show ¬ 97 ≤ b - 256 by omega), decide_eq_false (show ¬ b ≤ 122 by omega), Bool.and_false]; rfl
theorem sb_32 {b : Int} (h0 : 0 ≤ b) (h1 : b < 256) : sb b = 32 ↔ b = 32 := by unfold sb; split <;> omega
theorem sb_bd {b : Int} (h0 : 0 ≤ b) (h1 : b < 256) : -128 ≤ sb b ∧ sb b < 128 := by unfold sb; split <;> omega
theorem isl_sb' {b : Int} (h : isl b = true) : sb b = b ∧ 97 ≤ b ∧ b ≤ 122 := by
  unfold isl at h
  rw [Bool.and_eq_true, decide_eq_true_eq, decide_eq_true_eq] at h
  unfold sb
  rw [if_pos (by omega)]
  exact ⟨rfl, h⟩
theorem Txt_snoc {f : Nat → Int32} {p : Nat} {s : List Int} {x : Int} (h : Txt f p s) : Txt (up f (p + s.length) (w x)) p (s ++ [x]) := by
  refine Txt_app (Txt_congr h (fun j _ hj => up_ne (by omega))) ?_
  intro i hi
  have : i = 0 := by simpa using hi
  subst this
  exact up_same
theorem zl_snoc {L : List Nat} {x : Nat} : zl (L ++ [x]) = zl L ++ [(x : Int)] := by rw [zl_app]; rfl
section
variable {d : Nat} {Q : XO → Hp → Prop} {S : SH} {I : MI} {L : ML} {R : MR} {G : MG} {A : Hp}
variable {h : Nat}
theorem sp_148 {x : Int} (h1 : -2147483648 ≤ x) (h2 : x < 2147483648) : XC d 148 [.int (w x)] A Q ↔ Q (.inl (some (.int (bz (isl x))))) A := by
  simp (disch := omega) only [q_148_0, q_148_1, q_148_3, q_148_6, q_148_7, q_148_9, q_148_12, q_148_13, q_148_16, q_148_17, q_148_e, va_rf_s, bz_0, bz_1, bz_ok, bb_ok, Nat.add_assoc, w_lt, w_add, w_sub, w_mul, w_div, em_def, w_eq, w_inT, ↓ilt_t, ↓ilt_f, ↓ieq_t, ↓ieq_f, ntT, w_b, w_ix, kx_v, kx_n, kl_n, kl_i, kl_r, kl_o, inA_i, inA_s, inA_b, inA_z, inA_l, inA_0, inA_4, inA_5, inA_6, inA_7, inA_8, inA_9, inA_10, al_0, al_1, al_2, al_4, al_5, al_98, bsP_2, bsP_3, wr_same, wr_wr, wr_ne, up_same, up_ne, Nat.reduceAdd, Int.reduceAdd, Int.reduceSub, Int.reduceMul, Int.reduceLT, Int.reduceLE, Int.reduceEq, Int.reduceNeg, Int.reduceToNat, Nat.reduceLT, Nat.reduceLeDiff, Nat.reduceEqDiff, ↓reduceIte, true_and, and_true, not_true_eq_false, not_false_eq_true, eq_self, or_true, true_or, or_false, false_or, if_true, if_false, Int.toNat_natCast, w_ite, Nat.add_zero, reduceCtorEq, ne_eq]
  unfold isl bz
  by_cases c1 : x < 97
  · simp [c1, Int.not_le.mpr c1]
  · by_cases c2 : 122 < x
    · simp [c1, c2, Int.not_le.mpr c2]
    · simp [c1, c2, Int.not_lt.mp c1, Int.not_lt.mp c2]
theorem sp_149 {x : Int} (h1 : -2147483648 ≤ x) (h2 : x < 2147483648) : XC d 149 [.int (w x)] A Q ↔ Q (.inl (some (.int (bz (decide (48 ≤ x) && decide (x ≤ 57)))))) A := by
  simp (disch := omega) only [q_149_0, q_149_1, q_149_3, q_149_6, q_149_7, q_149_9, q_149_12, q_149_13, q_149_16, q_149_17, q_149_e, va_rf_s, bz_0, bz_1, bz_ok, bb_ok, Nat.add_assoc, w_lt, w_add, w_sub, w_mul, w_div, em_def, w_eq, w_inT, ↓ilt_t, ↓ilt_f, ↓ieq_t, ↓ieq_f, ntT, w_b, w_ix, kx_v, kx_n, kl_n, kl_i, kl_r, kl_o, inA_i, inA_s, inA_b, inA_z, inA_l, inA_0, inA_4, inA_5, inA_6, inA_7, inA_8, inA_9, inA_10, al_0, al_1, al_2, al_4, al_5, al_98, bsP_2, bsP_3, wr_same, wr_wr, wr_ne, up_same, up_ne, Nat.reduceAdd, Int.reduceAdd, Int.reduceSub, Int.reduceMul, Int.reduceLT, Int.reduceLE, Int.reduceEq, Int.reduceNeg, Int.reduceToNat, Nat.reduceLT, Nat.reduceLeDiff, Nat.reduceEqDiff, ↓reduceIte, true_and, and_true, not_true_eq_false, not_false_eq_true, eq_self, or_true, true_or, or_false, false_or, if_true, if_false, Int.toNat_natCast, w_ite, Nat.add_zero, reduceCtorEq, ne_eq]
  unfold bz
  by_cases c1 : x < 48
  · simp [c1, Int.not_le.mpr c1]
  · by_cases c2 : 57 < x
    · simp [c1, c2, Int.not_le.mpr c2]
    · simp [c1, c2, Int.not_lt.mp c1, Int.not_lt.mp c2]
theorem sp_15 {x : Int} {k : Nat} (hS : ChS S h) (hk : k < 400) (h1 : -128 ≤ x) (h2 : x < 128) : XC d 15 [.ref h, .int (w x), .int (w k)] (mk S I L R G) Q ↔ Q (.inl (some (.int (w ((k + 1 : Nat) : Int))))) (mk S (wr I (h + 1) (up (I (h + 1)) k (w x))) L R G) := by
  obtain ⟨g0, g1, -⟩ := hS
  simp (disch := omega) only [q_15_0, q_15_1, q_15_4, q_15_5, q_15_6, q_15_9, q_15_10, q_15_13, q_15_14, q_15_15, q_15_16, q_15_19, q_15_20, q_15_21, q_15_22, q_15_23, q_15_24, q_15_25, q_15_26, q_15_e, va_rf_s, bz_0, bz_1, bz_ok, bb_ok, Nat.add_assoc, w_lt, w_add, w_sub, w_mul, w_div, em_def, w_eq, w_inT, ↓ilt_t, ↓ilt_f, ↓ieq_t, ↓ieq_f, ntT, w_b, w_ix, kx_v, kx_n, kl_n, kl_i, kl_r, kl_o, inA_i, inA_s, inA_b, inA_z, inA_l, inA_0, inA_4, inA_5, inA_6, inA_7, inA_8, inA_9, inA_10, al_0, al_1, al_2, al_4, al_5, al_98, bsP_2, bsP_3, wr_same, wr_wr, wr_ne, up_same, up_ne, Nat.reduceAdd, Int.reduceAdd, Int.reduceSub, Int.reduceMul, Int.reduceLT, Int.reduceLE, Int.reduceEq, Int.reduceNeg, Int.reduceToNat, Nat.reduceLT, Nat.reduceLeDiff, Nat.reduceEqDiff, ↓reduceIte, true_and, and_true, not_true_eq_false, not_false_eq_true, eq_self, or_true, true_or, or_false, false_or, if_true, if_false, Int.toNat_natCast, w_ite, Nat.add_zero, reduceCtorEq, ne_eq, g0, g1, Int.natCast_add, Int.natCast_one]
theorem sp_13 {l : List Int} {st en : List Nat} (hS : ChS S h) (hc : ChAt I h l st en) (hl : l.length + 1 < 400) (hn : st.length < 40) (he : st = [] → l = [])
    (hQ : ∀ I' : MI, (∀ a, (a < h ∨ h + 7 < a) → I' a = I a) → I' h 3 = w (st.length + 1 : Nat) → Txt (I' (h + 1)) 0 (if st = [] then l else l ++ [32]) → Txt (I' (h + 2)) 0 (zl (st ++ [(if st = [] then l else l ++ [32]).length])) → I' (h + 3) = I (h + 3) → Q (.inl (some (.int (w ((if st = [] then l else l ++ [32]).length : Nat))))) (mk S I' L R G)) :
    XC (d + 1) 13 [.ref h, .int (w l.length)] (mk S I L R G) Q := by
  obtain ⟨c3, cl, cs, ce, clen, c40⟩ := hc
  have s15 := fun {d : Nat} {Q : XO → Hp → Prop} => sp_15 (d := d) (Q := Q) (I := I) (L := L) (R := R) (G := G) (x := 32) (k := l.length) hS (by omega) (by decide) (by decide)
  obtain ⟨g0, g1, g2, g3, -⟩ := hS
  by_cases c : st = []
  · subst c
    have e := he rfl
    subst e
    simp only [List.length_nil, Int.natCast_zero] at *
    simp (disch := omega) only [q_13_0, q_13_1, q_13_4, q_13_7, q_13_8, q_13_11, q_13_12, q_13_14, q_13_15, q_13_18, q_13_19, q_13_20, q_13_23, q_13_26, q_13_27, q_13_30, q_13_32, q_13_35, q_13_36, q_13_39, q_13_40, q_13_43, q_13_44, q_13_45, q_13_46, q_13_47, q_13_50, q_13_51, q_13_52, q_13_55, q_13_56, q_13_e, va_rf_s, bz_0, bz_1, bz_ok, bb_ok, Nat.add_assoc, w_lt, w_add, w_sub, w_mul, w_div, em_def, w_eq, w_inT, ↓ilt_t, ↓ilt_f, ↓ieq_t, ↓ieq_f, ntT, w_b, w_ix, kx_v, kx_n, kl_n, kl_i, kl_r, kl_o, inA_i, inA_s, inA_b, inA_z, inA_l, inA_0, inA_4, inA_5, inA_6, inA_7, inA_8, inA_9, inA_10, al_0, al_1, al_2, al_4, al_5, al_98, bsP_2, bsP_3, wr_same, wr_wr, wr_ne, up_same, up_ne, Nat.reduceAdd, Int.reduceAdd, Int.reduceSub, Int.reduceMul, Int.reduceLT, Int.reduceLE, Int.reduceEq, Int.reduceNeg, Int.reduceToNat, Nat.reduceLT, Nat.reduceLeDiff, Nat.reduceEqDiff, ↓reduceIte, true_and, and_true, not_true_eq_false, not_false_eq_true, eq_self, or_true, true_or, or_false, false_or, if_true, if_false, Int.toNat_natCast, w_ite, Nat.add_zero, reduceCtorEq, ne_eq, g0, g2, c3]
    refine hQ _ (fun a ha => by rw [wr_ne (by omega), wr_ne (by omega)]) (by rw [wr_same, up_same]; rfl) (by rw [wr_ne (by omega), wr_ne (by omega)]; exact cl) ?_ (by rw [wr_ne (by omega), wr_ne (by omega)])
    rw [wr_ne (by omega), wr_same, zl_snoc]
    have := Txt_snoc (x := 0) cs
    rw [zl_len] at this
    exact this
  · have hlen : 0 < st.length := List.length_pos_iff.mpr c
    simp only [if_neg c] at hQ
    simp (disch := omega) only [q_13_0, q_13_1, q_13_4, q_13_7, q_13_8, q_13_11, q_13_12, q_13_14, q_13_15, q_13_18, q_13_19, q_13_20, q_13_23, q_13_26, q_13_27, q_13_30, q_13_32, q_13_35, q_13_36, q_13_39, q_13_40, q_13_43, q_13_44, q_13_45, q_13_46, q_13_47, q_13_50, q_13_51, q_13_52, q_13_55, q_13_56, q_13_e, va_rf_s, bz_0, bz_1, bz_ok, bb_ok, Nat.add_assoc, w_lt, w_add, w_sub, w_mul, w_div, em_def, w_eq, w_inT, ↓ilt_t, ↓ilt_f, ↓ieq_t, ↓ieq_f, ntT, w_b, w_ix, kx_v, kx_n, kl_n, kl_i, kl_r, kl_o, inA_i, inA_s, inA_b, inA_z, inA_l, inA_0, inA_4, inA_5, inA_6, inA_7, inA_8, inA_9, inA_10, al_0, al_1, al_2, al_4, al_5, al_98, bsP_2, bsP_3, wr_same, wr_wr, wr_ne, up_same, up_ne, Nat.reduceAdd, Int.reduceAdd, Int.reduceSub, Int.reduceMul, Int.reduceLT, Int.reduceLE, Int.reduceEq, Int.reduceNeg, Int.reduceToNat, Nat.reduceLT, Nat.reduceLeDiff, Nat.reduceEqDiff, ↓reduceIte, true_and, and_true, not_true_eq_false, not_false_eq_true, eq_self, or_true, true_or, or_false, false_or, if_true, if_false, Int.toNat_natCast, w_ite, Nat.add_zero, reduceCtorEq, ne_eq, g0, g2, c3, s15]
    have hll : (l ++ [32]).length = l.length + 1 := by rw [List.length_append]; rfl
    rw [hll] at hQ
    refine hQ _ (fun a ha => by rw [wr_ne (by omega), wr_ne (by omega), wr_ne (by omega)]) (by rw [wr_same, up_same]; rfl) ?_ ?_ (by rw [wr_ne (by omega), wr_ne (by omega), wr_ne (by omega)])
    · rw [wr_ne (by omega), wr_ne (by omega), wr_same]
      have := Txt_snoc (x := 32) cl
      rw [Nat.zero_add] at this
      exact this
    · rw [wr_ne (by omega), wr_same, zl_snoc]
      have := Txt_snoc (x := ((l.length + 1 : Nat) : Int)) cs
      rw [zl_len, Nat.zero_add] at this
      exact this
theorem sp_14 {l : List Int} {st en : List Nat} {x : Int} (hS : ChS S h) (c3 : I h 3 = w st.length) (cl : Txt (I (h + 1)) 0 l) (ce : Txt (I (h + 3)) 0 (zl en)) (h0 : 0 < st.length) (h40 : st.length ≤ 40) (hen : en.length = st.length - 1) (hl : l.length < 400) (h1 : -128 ≤ x) (h2 : x < 128)
    (hQ : ∀ I' : MI, (∀ a, a ≠ h + 1 → a ≠ h + 3 → I' a = I a) → Txt (I' (h + 1)) 0 (l ++ [x]) → Txt (I' (h + 3)) 0 (zl (en ++ [l.length + 1])) → Q (.inl (some (.int (w ((l.length + 1 : Nat) : Int))))) (mk S I' L R G)) :
    XC (d + 1) 14 [.ref h, .int (w x), .int (w l.length)] (mk S I L R G) Q := by
  have s15 := fun {d : Nat} {Q : XO → Hp → Prop} => sp_15 (d := d) (Q := Q) (I := I) (L := L) (R := R) (G := G) (x := x) (k := l.length) hS hl h1 h2
  obtain ⟨g0, g1, g2, g3, -⟩ := hS
  simp (disch := omega) only [q_14_0, q_14_1, q_14_2, q_14_3, q_14_6, q_14_7, q_14_8, q_14_11, q_14_14, q_14_15, q_14_18, q_14_20, q_14_23, q_14_24, q_14_27, q_14_28, q_14_31, q_14_32, q_14_33, q_14_34, q_14_35, q_14_36, q_14_e, va_rf_s, bz_0, bz_1, bz_ok, bb_ok, Nat.add_assoc, w_lt, w_add, w_sub, w_mul, w_div, em_def, w_eq, w_inT, ↓ilt_t, ↓ilt_f, ↓ieq_t, ↓ieq_f, ntT, w_b, w_ix, kx_v, kx_n, kl_n, kl_i, kl_r, kl_o, inA_i, inA_s, inA_b, inA_z, inA_l, inA_0, inA_4, inA_5, inA_6, inA_7, inA_8, inA_9, inA_10, al_0, al_1, al_2, al_4, al_5, al_98, bsP_2, bsP_3, wr_same, wr_wr, wr_ne, up_same, up_ne, Nat.reduceAdd, Int.reduceAdd, Int.reduceSub, Int.reduceMul, Int.reduceLT, Int.reduceLE, Int.reduceEq, Int.reduceNeg, Int.reduceToNat, Nat.reduceLT, Nat.reduceLeDiff, Nat.reduceEqDiff, ↓reduceIte, true_and, and_true, not_true_eq_false, not_false_eq_true, eq_self, or_true, true_or, or_false, false_or, if_true, if_false, Int.toNat_natCast, w_ite, Nat.add_zero, reduceCtorEq, ne_eq, g0, g3, c3, s15]
  rw [show ((st.length : Int) - 1).toNat = en.length by omega]
  refine hQ _ (fun a h1 h2 => by rw [wr_ne (by omega), wr_ne (by omega)]) ?_ ?_
  · rw [wr_ne (by omega), wr_same]
    have := Txt_snoc (x := x) cl
    rw [Nat.zero_add] at this
    exact this
  · rw [wr_same, zl_snoc]
    have := Txt_snoc (x := ((l.length + 1 : Nat) : Int)) ce
    rw [zl_len, Nat.zero_add] at this
    exact this
theorem sp_12 {a m : Nat} {t : List Int} (hS : ChS S h) (ha : S a = some (.inl (2, m))) (hm : m ≤ 400) (htm : t.length ≤ m) (ht : Txt (I a) 0 (t.map sb)) (htb : ∀ b ∈ t, 0 ≤ b ∧ b < 256) (hah : a < h ∨ h + 7 < a)
    (hQ0 : spl t false [] [] [] = none → ∀ I' : MI, (∀ a, (a < h ∨ h + 7 < a) → I' a = I a) → Q (.inl (some (.int (w 0)))) (mk S I' L R G))
    (hQ1 : ∀ l st en, spl t false [] [] [] = some (l, st, en) → ∀ I' : MI, (∀ a, (a < h ∨ h + 7 < a) → I' a = I a) → ChAt I' h l st en → Q (.inl (some (.int (w 1)))) (mk S I' L R G)) :
    XC (d + 2) 12 [.ref h, .ref a, .int (w t.length)] (mk S I L R G) Q := by
  obtain ⟨g0, g1, g2, g3, -⟩ := id hS
  generalize hres : spl t false [] [] [] = res at hQ0 hQ1
  have lp : ∀ (j i : Nat) (inW : Bool) (l : List Int) (st en : List Nat) (I1 : MI) (o : Option Value), i + j = t.length → (∀ a, (a < h ∨ h + 7 < a) → I1 a = I a) → ChAt I1 h l st en → l.length ≤ i → (inW = false → st ≠ [] → l.length + 1 ≤ i) → (st = [] → l = []) → (inW = true → st ≠ []) → spl (t.drop i) inW l st en = res → XX (d + 2) 12 13 [some (.ref h), some (.ref a), some (.int (w t.length)), some (.int (w l.length)), some (.int (bz inW)), some (.int (w i)), o] [] (mk S I1 L R G) Q := by
    intro j
    induction j with
    | zero =>
      intro i inW l st en I1 o hi hf hc hl1 hl2 he hiw hs
      rw [List.drop_eq_nil_of_le (by omega)] at hs
      rw [q_12_13]
      simp (disch := omega) only [q_12_0, q_12_1, q_12_2, q_12_5, q_12_6, q_12_7, q_12_8, q_12_10, q_12_11, q_12_15, q_12_16, q_12_19, q_12_21, q_12_22, q_12_23, q_12_26, q_12_27, q_12_29, q_12_30, q_12_32, q_12_34, q_12_37, q_12_40, q_12_42, q_12_44, q_12_47, q_12_48, q_12_49, q_12_50, q_12_52, q_12_55, q_12_57, q_12_60, q_12_61, q_12_64, q_12_66, q_12_69, q_12_70, q_12_71, q_12_72, q_12_73, q_12_76, q_12_77, q_12_78, q_12_80, q_12_81, q_12_83, q_12_84, q_12_87, q_12_88, q_12_91, q_12_94, q_12_95, q_12_e, va_rf_s, bz_0, bz_1, bz_ok, bb_ok, Nat.add_assoc, w_lt, w_add, w_sub, w_mul, w_div, em_def, w_eq, w_inT, ↓ilt_t, ↓ilt_f, ↓ieq_t, ↓ieq_f, ntT, w_b, w_ix, kx_v, kx_n, kl_n, kl_i, kl_r, kl_o, inA_i, inA_s, inA_b, inA_z, inA_l, inA_0, inA_4, inA_5, inA_6, inA_7, inA_8, inA_9, inA_10, al_0, al_1, al_2, al_4, al_5, al_98, bsP_2, bsP_3, wr_same, wr_wr, wr_ne, up_same, up_ne, Nat.reduceAdd, Int.reduceAdd, Int.reduceSub, Int.reduceMul, Int.reduceLT, Int.reduceLE, Int.reduceEq, Int.reduceNeg, Int.reduceToNat, Nat.reduceLT, Nat.reduceLeDiff, Nat.reduceEqDiff, ↓reduceIte, true_and, and_true, not_true_eq_false, not_false_eq_true, eq_self, or_true, true_or, or_false, false_or, if_true, if_false, Int.toNat_natCast, w_ite, Nat.add_zero, reduceCtorEq, ne_eq]
      exact hQ1 l st en hs.symm I1 hf hc
    | succ j ih =>
      intro i inW l st en I1 o hi hf hc hl1 hl2 he hiw hs
      have hb := htb (t.getD i 0) (by rw [List.getD_eq_getElem?_getD, List.getElem?_eq_getElem (by omega)]; exact List.getElem_mem _)
      have hbb := sb_bd hb.1 hb.2
      have e1 : I1 a i = w (sb (t.getD i 0)) := by
        have := ht i (by rw [List.length_map]; omega)
        rw [Nat.zero_add] at this
        rw [hf a hah, this, List.getD_eq_getElem?_getD, List.getElem?_map, List.getD_eq_getElem?_getD, List.getElem?_eq_getElem (show i < t.length by omega)]
        rfl
      have hd : t.drop i = t.getD i 0 :: t.drop (i + 1) := drop_cons (by omega)
      rw [hd] at hs
      have s148 := fun {d : Nat} {Q : XO → Hp → Prop} {A : Hp} => sp_148 (d := d) (Q := Q) (A := A) (x := sb (t.getD i 0)) (by omega) (by omega)
      rw [isl_sb hb.1 hb.2] at s148
      have h32 := sb_32 hb.1 hb.2
      have hlet := isl_sb' (b := t.getD i 0)
      generalize t.getD i 0 = b at *
      rw [q_12_13]
      unfold spl at hs
      obtain ⟨c3, cl, cs, ce, clen, c40⟩ := id hc
      by_cases cL : isl b = true
      · obtain ⟨l1, l2, l3⟩ := hlet cL
        rw [if_pos cL] at hs
        rw [cL] at s148
        rw [l1] at e1 s148
        simp (disch := omega) only [q_12_0, q_12_1, q_12_2, q_12_5, q_12_6, q_12_7, q_12_8, q_12_10, q_12_11, q_12_15, q_12_16, q_12_19, q_12_21, q_12_22, q_12_23, q_12_26, q_12_27, q_12_29, q_12_30, q_12_32, q_12_34, q_12_37, q_12_40, q_12_42, q_12_44, q_12_47, q_12_48, q_12_49, q_12_50, q_12_52, q_12_57, q_12_60, q_12_61, q_12_64, q_12_66, q_12_69, q_12_70, q_12_71, q_12_72, q_12_73, q_12_76, q_12_77, q_12_78, q_12_81, q_12_83, q_12_84, q_12_87, q_12_88, q_12_91, q_12_94, q_12_95, q_12_e, va_rf_s, bz_0, bz_1, bz_ok, bb_ok, Nat.add_assoc, w_lt, w_add, w_sub, w_mul, w_div, em_def, w_eq, w_inT, ↓ilt_t, ↓ilt_f, ↓ieq_t, ↓ieq_f, ntT, w_b, w_ix, kx_v, kx_n, kl_n, kl_i, kl_r, kl_o, inA_i, inA_s, inA_b, inA_z, inA_l, inA_0, inA_4, inA_5, inA_6, inA_7, inA_8, inA_9, inA_10, al_0, al_1, al_2, al_4, al_5, al_98, bsP_2, bsP_3, wr_same, wr_wr, wr_ne, up_same, up_ne, Nat.reduceAdd, Int.reduceAdd, Int.reduceSub, Int.reduceMul, Int.reduceLT, Int.reduceLE, Int.reduceEq, Int.reduceNeg, Int.reduceToNat, Nat.reduceLT, Nat.reduceLeDiff, Nat.reduceEqDiff, ↓reduceIte, true_and, and_true, not_true_eq_false, not_false_eq_true, eq_self, or_true, true_or, or_false, false_or, if_true, if_false, Int.toNat_natCast, w_ite, Nat.add_zero, reduceCtorEq, ne_eq, ha, e1, s148, bz_t]
        cases inW with
        | true =>
          rw [if_pos rfl] at hs
          have hne := hiw rfl
          have hpos : 0 < st.length := List.length_pos_iff.mpr hne
          simp (disch := omega) only [q_12_0, q_12_1, q_12_2, q_12_5, q_12_6, q_12_7, q_12_8, q_12_10, q_12_11, q_12_15, q_12_16, q_12_19, q_12_21, q_12_22, q_12_23, q_12_26, q_12_27, q_12_29, q_12_30, q_12_32, q_12_34, q_12_37, q_12_40, q_12_42, q_12_44, q_12_47, q_12_48, q_12_49, q_12_50, q_12_52, q_12_55, q_12_57, q_12_60, q_12_61, q_12_64, q_12_66, q_12_69, q_12_70, q_12_71, q_12_72, q_12_73, q_12_76, q_12_77, q_12_78, q_12_80, q_12_81, q_12_83, q_12_84, q_12_87, q_12_88, q_12_91, q_12_94, q_12_95, q_12_e, va_rf_s, bz_0, bz_1, bz_ok, bb_ok, Nat.add_assoc, w_lt, w_add, w_sub, w_mul, w_div, em_def, w_eq, w_inT, ↓ilt_t, ↓ilt_f, ↓ieq_t, ↓ieq_f, ntT, w_b, w_ix, kx_v, kx_n, kl_n, kl_i, kl_r, kl_o, inA_i, inA_s, inA_b, inA_z, inA_l, inA_0, inA_4, inA_5, inA_6, inA_7, inA_8, inA_9, inA_10, al_0, al_1, al_2, al_4, al_5, al_98, bsP_2, bsP_3, wr_same, wr_wr, wr_ne, up_same, up_ne, Nat.reduceAdd, Int.reduceAdd, Int.reduceSub, Int.reduceMul, Int.reduceLT, Int.reduceLE, Int.reduceEq, Int.reduceNeg, Int.reduceToNat, Nat.reduceLT, Nat.reduceLeDiff, Nat.reduceEqDiff, ↓reduceIte, true_and, and_true, not_true_eq_false, not_false_eq_true, eq_self, or_true, true_or, or_false, false_or, if_true, if_false, Int.toNat_natCast, w_ite, Nat.add_zero, reduceCtorEq, ne_eq, bz_t, g0]
          have hdl : en.dropLast.length = st.length - 1 := by rw [List.length_dropLast]; omega
          refine sp_14 (st := st) (en := en.dropLast) hS c3 cl (by
            intro q hq
            rw [zl_len, List.length_dropLast] at hq
            have := ce q (by rw [zl_len]; omega)
            rw [this, zl_get, zl_get, List.getD_eq_getElem?_getD, List.getD_eq_getElem?_getD, List.getElem?_dropLast, if_pos (by omega)]) hpos c40 hdl (by omega) (by omega) (by omega) (fun I2 f1 f2 f3 => ?_)
          simp (disch := omega) only [q_12_0, q_12_1, q_12_2, q_12_5, q_12_6, q_12_7, q_12_8, q_12_10, q_12_11, q_12_15, q_12_16, q_12_19, q_12_21, q_12_22, q_12_23, q_12_26, q_12_27, q_12_29, q_12_30, q_12_32, q_12_34, q_12_37, q_12_40, q_12_42, q_12_44, q_12_47, q_12_48, q_12_49, q_12_50, q_12_52, q_12_55, q_12_57, q_12_60, q_12_61, q_12_64, q_12_66, q_12_69, q_12_70, q_12_71, q_12_72, q_12_73, q_12_76, q_12_77, q_12_78, q_12_80, q_12_81, q_12_83, q_12_84, q_12_87, q_12_88, q_12_91, q_12_94, q_12_95, q_12_e, va_rf_s, bz_0, bz_1, bz_ok, bb_ok, Nat.add_assoc, w_lt, w_add, w_sub, w_mul, w_div, em_def, w_eq, w_inT, ↓ilt_t, ↓ilt_f, ↓ieq_t, ↓ieq_f, ntT, w_b, w_ix, kx_v, kx_n, kl_n, kl_i, kl_r, kl_o, inA_i, inA_s, inA_b, inA_z, inA_l, inA_0, inA_4, inA_5, inA_6, inA_7, inA_8, inA_9, inA_10, al_0, al_1, al_2, al_4, al_5, al_98, bsP_2, bsP_3, wr_same, wr_wr, wr_ne, up_same, up_ne, Nat.reduceAdd, Int.reduceAdd, Int.reduceSub, Int.reduceMul, Int.reduceLT, Int.reduceLE, Int.reduceEq, Int.reduceNeg, Int.reduceToNat, Nat.reduceLT, Nat.reduceLeDiff, Nat.reduceEqDiff, ↓reduceIte, true_and, and_true, not_true_eq_false, not_false_eq_true, eq_self, or_true, true_or, or_false, false_or, if_true, if_false, Int.toNat_natCast, w_ite, Nat.add_zero, reduceCtorEq, ne_eq]
          have hll : (l ++ [b]).length = l.length + 1 := by rw [List.length_append]; rfl
          have := ih (i + 1) true (l ++ [b]) st (en.dropLast ++ [l.length + 1]) I2 (some (.int (w b))) (by omega) (fun a ha => by rw [f1 a (by omega) (by omega), hf a ha]) ⟨by rw [f1 _ (by omega) (by omega)]; exact c3, f2, by rw [f1 _ (by omega) (by omega)]; exact cs, f3, by rw [List.length_append, hdl]; show st.length = st.length - 1 + 1; omega, c40⟩ (by omega) (fun h => by cases h) (fun h => absurd h hne) (fun _ => hne) hs
          rw [hll] at this
          simp only [Int.natCast_add, Int.natCast_one, bz_t] at this
          exact this
        | false =>
          rw [if_neg (by decide)] at hs
          by_cases c4 : 40 ≤ st.length
          · rw [if_pos c4] at hs
            have e40 : st.length = 40 := by omega
            have c3' : I1 h 3 = w 40 := by rw [c3, e40]; rfl
            simp (disch := omega) only [q_12_0, q_12_1, q_12_2, q_12_5, q_12_6, q_12_7, q_12_8, q_12_10, q_12_11, q_12_15, q_12_16, q_12_19, q_12_21, q_12_22, q_12_23, q_12_26, q_12_27, q_12_29, q_12_30, q_12_32, q_12_34, q_12_37, q_12_40, q_12_42, q_12_44, q_12_47, q_12_48, q_12_49, q_12_50, q_12_52, q_12_55, q_12_57, q_12_60, q_12_61, q_12_64, q_12_66, q_12_69, q_12_70, q_12_71, q_12_72, q_12_73, q_12_76, q_12_77, q_12_78, q_12_80, q_12_81, q_12_83, q_12_84, q_12_87, q_12_88, q_12_91, q_12_94, q_12_95, q_12_e, va_rf_s, bz_0, bz_1, bz_ok, bb_ok, Nat.add_assoc, w_lt, w_add, w_sub, w_mul, w_div, em_def, w_eq, w_inT, ↓ilt_t, ↓ilt_f, ↓ieq_t, ↓ieq_f, ntT, w_b, w_ix, kx_v, kx_n, kl_n, kl_i, kl_r, kl_o, inA_i, inA_s, inA_b, inA_z, inA_l, inA_0, inA_4, inA_5, inA_6, inA_7, inA_8, inA_9, inA_10, al_0, al_1, al_2, al_4, al_5, al_98, bsP_2, bsP_3, wr_same, wr_wr, wr_ne, up_same, up_ne, Nat.reduceAdd, Int.reduceAdd, Int.reduceSub, Int.reduceMul, Int.reduceLT, Int.reduceLE, Int.reduceEq, Int.reduceNeg, Int.reduceToNat, Nat.reduceLT, Nat.reduceLeDiff, Nat.reduceEqDiff, ↓reduceIte, true_and, and_true, not_true_eq_false, not_false_eq_true, eq_self, or_true, true_or, or_false, false_or, if_true, if_false, Int.toNat_natCast, w_ite, Nat.add_zero, reduceCtorEq, ne_eq, bz_f, g0, c3']
            exact hQ0 hs.symm I1 hf
          · rw [if_neg c4] at hs
            simp (disch := omega) only [q_12_0, q_12_1, q_12_2, q_12_5, q_12_6, q_12_7, q_12_8, q_12_10, q_12_11, q_12_15, q_12_16, q_12_19, q_12_21, q_12_22, q_12_23, q_12_26, q_12_27, q_12_29, q_12_30, q_12_32, q_12_34, q_12_37, q_12_40, q_12_42, q_12_44, q_12_47, q_12_48, q_12_49, q_12_50, q_12_52, q_12_55, q_12_57, q_12_60, q_12_61, q_12_64, q_12_66, q_12_69, q_12_70, q_12_71, q_12_72, q_12_73, q_12_76, q_12_77, q_12_78, q_12_81, q_12_83, q_12_84, q_12_87, q_12_88, q_12_91, q_12_94, q_12_95, q_12_e, va_rf_s, bz_0, bz_1, bz_ok, bb_ok, Nat.add_assoc, w_lt, w_add, w_sub, w_mul, w_div, em_def, w_eq, w_inT, ↓ilt_t, ↓ilt_f, ↓ieq_t, ↓ieq_f, ntT, w_b, w_ix, kx_v, kx_n, kl_n, kl_i, kl_r, kl_o, inA_i, inA_s, inA_b, inA_z, inA_l, inA_0, inA_4, inA_5, inA_6, inA_7, inA_8, inA_9, inA_10, al_0, al_1, al_2, al_4, al_5, al_98, bsP_2, bsP_3, wr_same, wr_wr, wr_ne, up_same, up_ne, Nat.reduceAdd, Int.reduceAdd, Int.reduceSub, Int.reduceMul, Int.reduceLT, Int.reduceLE, Int.reduceEq, Int.reduceNeg, Int.reduceToNat, Nat.reduceLT, Nat.reduceLeDiff, Nat.reduceEqDiff, ↓reduceIte, true_and, and_true, not_true_eq_false, not_false_eq_true, eq_self, or_true, true_or, or_false, false_or, if_true, if_false, Int.toNat_natCast, w_ite, Nat.add_zero, reduceCtorEq, ne_eq, bz_f, g0, c3]
            refine sp_13 hS hc (by
              by_cases c : st = []
              · rw [he c]; decide
              · have := hl2 rfl c; omega) (by omega) he (fun I2 f1 f2 f3 f4 f5 => ?_)
            simp (disch := omega) only [q_12_0, q_12_1, q_12_2, q_12_5, q_12_6, q_12_7, q_12_8, q_12_10, q_12_11, q_12_15, q_12_16, q_12_19, q_12_21, q_12_22, q_12_23, q_12_26, q_12_27, q_12_29, q_12_30, q_12_32, q_12_34, q_12_37, q_12_40, q_12_42, q_12_44, q_12_47, q_12_48, q_12_49, q_12_50, q_12_52, q_12_55, q_12_57, q_12_60, q_12_61, q_12_64, q_12_66, q_12_69, q_12_70, q_12_71, q_12_72, q_12_73, q_12_76, q_12_77, q_12_78, q_12_81, q_12_83, q_12_84, q_12_87, q_12_88, q_12_91, q_12_94, q_12_95, q_12_e, va_rf_s, bz_0, bz_1, bz_ok, bb_ok, Nat.add_assoc, w_lt, w_add, w_sub, w_mul, w_div, em_def, w_eq, w_inT, ↓ilt_t, ↓ilt_f, ↓ieq_t, ↓ieq_f, ntT, w_b, w_ix, kx_v, kx_n, kl_n, kl_i, kl_r, kl_o, inA_i, inA_s, inA_b, inA_z, inA_l, inA_0, inA_4, inA_5, inA_6, inA_7, inA_8, inA_9, inA_10, al_0, al_1, al_2, al_4, al_5, al_98, bsP_2, bsP_3, wr_same, wr_wr, wr_ne, up_same, up_ne, Nat.reduceAdd, Int.reduceAdd, Int.reduceSub, Int.reduceMul, Int.reduceLT, Int.reduceLE, Int.reduceEq, Int.reduceNeg, Int.reduceToNat, Nat.reduceLT, Nat.reduceLeDiff, Nat.reduceEqDiff, ↓reduceIte, true_and, and_true, not_true_eq_false, not_false_eq_true, eq_self, or_true, true_or, or_false, false_or, if_true, if_false, Int.toNat_natCast, w_ite, Nat.add_zero, reduceCtorEq, ne_eq]
            have hl' : (if st = [] then l else l ++ [32]).length ≤ i := by
              split
              · exact hl1
              · rename_i c; rw [List.length_append]; exact hl2 rfl c
            generalize (if st = [] then l else l ++ [32]) = l' at *
            have ce2 : Txt (I2 (h + 3)) 0 (zl en) := by rw [f5]; exact ce
            simp (disch := omega) only [q_12_0, q_12_1, q_12_2, q_12_5, q_12_6, q_12_7, q_12_8, q_12_10, q_12_11, q_12_15, q_12_16, q_12_19, q_12_21, q_12_22, q_12_23, q_12_26, q_12_27, q_12_29, q_12_30, q_12_32, q_12_34, q_12_37, q_12_40, q_12_42, q_12_44, q_12_47, q_12_48, q_12_49, q_12_50, q_12_52, q_12_55, q_12_57, q_12_60, q_12_61, q_12_64, q_12_66, q_12_69, q_12_70, q_12_71, q_12_72, q_12_73, q_12_76, q_12_77, q_12_78, q_12_80, q_12_81, q_12_83, q_12_84, q_12_87, q_12_88, q_12_91, q_12_94, q_12_95, q_12_e, va_rf_s, bz_0, bz_1, bz_ok, bb_ok, Nat.add_assoc, w_lt, w_add, w_sub, w_mul, w_div, em_def, w_eq, w_inT, ↓ilt_t, ↓ilt_f, ↓ieq_t, ↓ieq_f, ntT, w_b, w_ix, kx_v, kx_n, kl_n, kl_i, kl_r, kl_o, inA_i, inA_s, inA_b, inA_z, inA_l, inA_0, inA_4, inA_5, inA_6, inA_7, inA_8, inA_9, inA_10, al_0, al_1, al_2, al_4, al_5, al_98, bsP_2, bsP_3, wr_same, wr_wr, wr_ne, up_same, up_ne, Nat.reduceAdd, Int.reduceAdd, Int.reduceSub, Int.reduceMul, Int.reduceLT, Int.reduceLE, Int.reduceEq, Int.reduceNeg, Int.reduceToNat, Nat.reduceLT, Nat.reduceLeDiff, Nat.reduceEqDiff, ↓reduceIte, true_and, and_true, not_true_eq_false, not_false_eq_true, eq_self, or_true, true_or, or_false, false_or, if_true, if_false, Int.toNat_natCast, w_ite, Nat.add_zero, reduceCtorEq, ne_eq, g0]
            refine sp_14 (st := st ++ [l'.length]) (en := en) hS (by rw [f2, List.length_append]; rfl) f3 ce2 (by rw [List.length_append]; exact Nat.succ_pos _) (by rw [List.length_append]; show st.length + 1 ≤ 40; omega) (by rw [List.length_append]; show en.length = st.length + 1 - 1; omega) (by omega) (by omega) (by omega) (fun I3 e1' e2' e3' => ?_)
            simp (disch := omega) only [q_12_0, q_12_1, q_12_2, q_12_5, q_12_6, q_12_7, q_12_8, q_12_10, q_12_11, q_12_15, q_12_16, q_12_19, q_12_21, q_12_22, q_12_23, q_12_26, q_12_27, q_12_29, q_12_30, q_12_32, q_12_34, q_12_37, q_12_40, q_12_42, q_12_44, q_12_47, q_12_48, q_12_49, q_12_50, q_12_52, q_12_55, q_12_57, q_12_60, q_12_61, q_12_64, q_12_66, q_12_69, q_12_70, q_12_71, q_12_72, q_12_73, q_12_76, q_12_77, q_12_78, q_12_80, q_12_81, q_12_83, q_12_84, q_12_87, q_12_88, q_12_91, q_12_94, q_12_95, q_12_e, va_rf_s, bz_0, bz_1, bz_ok, bb_ok, Nat.add_assoc, w_lt, w_add, w_sub, w_mul, w_div, em_def, w_eq, w_inT, ↓ilt_t, ↓ilt_f, ↓ieq_t, ↓ieq_f, ntT, w_b, w_ix, kx_v, kx_n, kl_n, kl_i, kl_r, kl_o, inA_i, inA_s, inA_b, inA_z, inA_l, inA_0, inA_4, inA_5, inA_6, inA_7, inA_8, inA_9, inA_10, al_0, al_1, al_2, al_4, al_5, al_98, bsP_2, bsP_3, wr_same, wr_wr, wr_ne, up_same, up_ne, Nat.reduceAdd, Int.reduceAdd, Int.reduceSub, Int.reduceMul, Int.reduceLT, Int.reduceLE, Int.reduceEq, Int.reduceNeg, Int.reduceToNat, Nat.reduceLT, Nat.reduceLeDiff, Nat.reduceEqDiff, ↓reduceIte, true_and, and_true, not_true_eq_false, not_false_eq_true, eq_self, or_true, true_or, or_false, false_or, if_true, if_false, Int.toNat_natCast, w_ite, Nat.add_zero, reduceCtorEq, ne_eq]
            have hll : (l' ++ [b]).length = l'.length + 1 := by rw [List.length_append]; rfl
            have := ih (i + 1) true (l' ++ [b]) (st ++ [l'.length]) (en ++ [l'.length + 1]) I3 (some (.int (w b))) (by omega) (fun a ha => by rw [e1' a (by omega) (by omega), f1 a ha, hf a ha]) ⟨by rw [e1' _ (by omega) (by omega), f2, List.length_append]; rfl, e2', by rw [e1' _ (by omega) (by omega)]; exact f4, e3', by rw [List.length_append, List.length_append, clen]; rfl, by rw [List.length_append]; show st.length + 1 ≤ 40; omega⟩ (by omega) (fun h => by cases h) (fun h => by simp at h) (fun _ => by simp) hs
            rw [hll] at this
            simp only [Int.natCast_add, Int.natCast_one, bz_t] at this
            exact this
      · have cL' : isl b = false := by simpa using cL
        rw [if_neg cL] at hs
        rw [cL'] at s148
        by_cases c32 : b = 32
        · rw [if_pos c32] at hs
          have e32 := h32.mpr c32
          rw [e32] at e1 s148
          simp (disch := omega) only [q_12_0, q_12_1, q_12_2, q_12_5, q_12_6, q_12_7, q_12_8, q_12_10, q_12_11, q_12_15, q_12_16, q_12_19, q_12_21, q_12_22, q_12_23, q_12_26, q_12_27, q_12_29, q_12_30, q_12_32, q_12_34, q_12_37, q_12_40, q_12_42, q_12_44, q_12_47, q_12_48, q_12_49, q_12_50, q_12_52, q_12_55, q_12_57, q_12_60, q_12_61, q_12_64, q_12_66, q_12_69, q_12_70, q_12_71, q_12_72, q_12_73, q_12_76, q_12_77, q_12_78, q_12_80, q_12_81, q_12_83, q_12_84, q_12_87, q_12_88, q_12_91, q_12_94, q_12_95, q_12_e, va_rf_s, bz_0, bz_1, bz_ok, bb_ok, Nat.add_assoc, w_lt, w_add, w_sub, w_mul, w_div, em_def, w_eq, w_inT, ↓ilt_t, ↓ilt_f, ↓ieq_t, ↓ieq_f, ntT, w_b, w_ix, kx_v, kx_n, kl_n, kl_i, kl_r, kl_o, inA_i, inA_s, inA_b, inA_z, inA_l, inA_0, inA_4, inA_5, inA_6, inA_7, inA_8, inA_9, inA_10, al_0, al_1, al_2, al_4, al_5, al_98, bsP_2, bsP_3, wr_same, wr_wr, wr_ne, up_same, up_ne, Nat.reduceAdd, Int.reduceAdd, Int.reduceSub, Int.reduceMul, Int.reduceLT, Int.reduceLE, Int.reduceEq, Int.reduceNeg, Int.reduceToNat, Nat.reduceLT, Nat.reduceLeDiff, Nat.reduceEqDiff, ↓reduceIte, true_and, and_true, not_true_eq_false, not_false_eq_true, eq_self, or_true, true_or, or_false, false_or, if_true, if_false, Int.toNat_natCast, w_ite, Nat.add_zero, reduceCtorEq, ne_eq, ha, e1, s148, bz_f]
          have := ih (i + 1) false l st en I1 (some (.int (w 32))) (by omega) hf hc (by omega) (fun _ _ => by omega) he (fun h => by cases h) hs
          simp only [Int.natCast_add, Int.natCast_one, bz_f] at this
          exact this
        · rw [if_neg c32] at hs
          have e32 : sb b ≠ 32 := fun h => c32 (h32.mp h)
          simp (disch := omega) only [q_12_0, q_12_1, q_12_2, q_12_5, q_12_6, q_12_7, q_12_8, q_12_10, q_12_11, q_12_15, q_12_16, q_12_19, q_12_21, q_12_22, q_12_23, q_12_26, q_12_27, q_12_29, q_12_30, q_12_32, q_12_34, q_12_37, q_12_40, q_12_42, q_12_44, q_12_47, q_12_48, q_12_49, q_12_50, q_12_52, q_12_55, q_12_57, q_12_60, q_12_61, q_12_64, q_12_66, q_12_69, q_12_70, q_12_71, q_12_72, q_12_73, q_12_76, q_12_77, q_12_78, q_12_80, q_12_81, q_12_83, q_12_84, q_12_87, q_12_88, q_12_91, q_12_94, q_12_95, q_12_e, va_rf_s, bz_0, bz_1, bz_ok, bb_ok, Nat.add_assoc, w_lt, w_add, w_sub, w_mul, w_div, em_def, w_eq, w_inT, ↓ilt_t, ↓ilt_f, ↓ieq_t, ↓ieq_f, ntT, w_b, w_ix, kx_v, kx_n, kl_n, kl_i, kl_r, kl_o, inA_i, inA_s, inA_b, inA_z, inA_l, inA_0, inA_4, inA_5, inA_6, inA_7, inA_8, inA_9, inA_10, al_0, al_1, al_2, al_4, al_5, al_98, bsP_2, bsP_3, wr_same, wr_wr, wr_ne, up_same, up_ne, Nat.reduceAdd, Int.reduceAdd, Int.reduceSub, Int.reduceMul, Int.reduceLT, Int.reduceLE, Int.reduceEq, Int.reduceNeg, Int.reduceToNat, Nat.reduceLT, Nat.reduceLeDiff, Nat.reduceEqDiff, ↓reduceIte, true_and, and_true, not_true_eq_false, not_false_eq_true, eq_self, or_true, true_or, or_false, false_or, if_true, if_false, Int.toNat_natCast, w_ite, Nat.add_zero, reduceCtorEq, ne_eq, ha, e1, s148, bz_f]
          exact hQ0 hs.symm I1 hf
  have := lp t.length 0 false [] [] [] (wr I h (up (I h) 3 (w 0))) none (by omega) (fun a ha => wr_ne (by omega)) ⟨by rw [wr_same, up_same]; rfl, (fun i hi => nomatch hi), fun i hi => by simp [zl] at hi, fun i hi => by simp [zl] at hi, rfl, by decide⟩ (by decide) (fun _ h => absurd rfl h) (fun _ => rfl) (fun h => by cases h) (by rw [List.drop_zero]; exact hres)
  simp only [List.length_nil, Int.natCast_zero, bz_f] at this
  simp (disch := omega) only [q_12_0, q_12_1, q_12_2, q_12_5, q_12_6, q_12_7, q_12_8, q_12_10, q_12_11, q_12_15, q_12_16, q_12_19, q_12_21, q_12_22, q_12_23, q_12_26, q_12_27, q_12_29, q_12_30, q_12_32, q_12_34, q_12_37, q_12_40, q_12_42, q_12_44, q_12_47, q_12_48, q_12_49, q_12_50, q_12_52, q_12_55, q_12_57, q_12_60, q_12_61, q_12_64, q_12_66, q_12_69, q_12_70, q_12_71, q_12_72, q_12_73, q_12_76, q_12_77, q_12_78, q_12_80, q_12_81, q_12_83, q_12_84, q_12_87, q_12_88, q_12_91, q_12_94, q_12_95, q_12_e, va_rf_s, bz_0, bz_1, bz_ok, bb_ok, Nat.add_assoc, w_lt, w_add, w_sub, w_mul, w_div, em_def, w_eq, w_inT, ↓ilt_t, ↓ilt_f, ↓ieq_t, ↓ieq_f, ntT, w_b, w_ix, kx_v, kx_n, kl_n, kl_i, kl_r, kl_o, inA_i, inA_s, inA_b, inA_z, inA_l, inA_0, inA_4, inA_5, inA_6, inA_7, inA_8, inA_9, inA_10, al_0, al_1, al_2, al_4, al_5, al_98, bsP_2, bsP_3, wr_same, wr_wr, wr_ne, up_same, up_ne, Nat.reduceAdd, Int.reduceAdd, Int.reduceSub, Int.reduceMul, Int.reduceLT, Int.reduceLE, Int.reduceEq, Int.reduceNeg, Int.reduceToNat, Nat.reduceLT, Nat.reduceLeDiff, Nat.reduceEqDiff, ↓reduceIte, true_and, and_true, not_true_eq_false, not_false_eq_true, eq_self, or_true, true_or, or_false, false_or, if_true, if_false, Int.toNat_natCast, w_ite, Nat.add_zero, reduceCtorEq, ne_eq, g0]
  exact this
end

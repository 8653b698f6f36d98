/-! the voice's small methods -/
/-- a list written into a row from a place on -/
def pw (f : Nat → Int32) (p : Nat) (s : List Int) : Nat → Int32 := fun j => if p ≤ j ∧ j < p + s.length then w (s.getD (j - p) 0) else f j
theorem pw_nil (f : Nat → Int32) (p : Nat) : pw f p [] = f := by
  funext j; unfold pw; rw [if_neg (by simp)]
theorem pw_out {f : Nat → Int32} {p j : Nat} {s : List Int} (h : j < p ∨ p + s.length ≤ j) : pw f p s j = f j := by
  unfold pw; rw [if_neg (by omega)]
theorem pw_txt (f : Nat → Int32) (p : Nat) (s : List Int) : Txt (pw f p s) p s := by
  intro i hi; unfold pw; rw [if_pos (by omega), Nat.add_sub_cancel_left]
theorem cpy_pw {f g : Nat → Int32} {p q : Nat} {s : List Int} (h : Txt f p s) : va_cpy f g p q s.length = pw g q s := by
  funext j
  unfold va_cpy pw
  split
  · rename_i hj
    rw [h (j - q) (by omega)]
  · rfl
theorem Txt_app {f : Nat → Int32} {p : Nat} {s t : List Int} (h1 : Txt f p s) (h2 : Txt f (p + s.length) t) : Txt f p (s ++ t) := by
  intro i hi
  rw [List.length_append] at hi
  by_cases h : i < s.length
  · rw [h1 i h, List.getD_eq_getElem?_getD, List.getD_eq_getElem?_getD, List.getElem?_append_left h]
  · have := h2 (i - s.length) (by omega)
    rw [show p + s.length + (i - s.length) = p + i by omega] at this
    rw [this, List.getD_eq_getElem?_getD, List.getD_eq_getElem?_getD, List.getElem?_append_right (by omega)]
theorem Txt_congr {f g : Nat → Int32} {p : Nat} {s : List Int} (h : Txt f p s) (e : ∀ j, p ≤ j → j < p + s.length → g j = f j) : Txt g p s := by
  intro i hi
  rw [e (p + i) (by omega) (by omega)]
  exact h i hi
theorem Txt_inj {f : Nat → Int32} {p : Nat} {s t : List Int} (h1 : Txt f p s) (h2 : Txt f p t) (hl : s.length = t.length) (hs : ∀ b ∈ s, -2147483648 ≤ b ∧ b < 2147483648) (ht : ∀ b ∈ t, -2147483648 ≤ b ∧ b < 2147483648) : s = t := by
  apply List.ext_getElem hl
  intro i a b
  have e1 := h1 i a
  have e2 := h2 i b
  rw [List.getD_eq_getElem?_getD, List.getElem?_eq_getElem a] at e1
  rw [List.getD_eq_getElem?_getD, List.getElem?_eq_getElem b] at e2
  have e3 := e1.symm.trans e2
  simp only [Option.getD_some] at e3
  have hs := hs _ (List.getElem_mem a)
  have ht := ht _ (List.getElem_mem b)
  exact (w_eq hs.1 hs.2 ht.1 ht.2).mp e3
section
variable {d : Nat} {Q : XO → Hp → Prop} {S : SH} {I : MI} {L : ML} {R : MR} {G : MG} {A : Hp}
theorem sp_150 {a b n1 n2 p q : Nat} {s : List Int} (h1 : S a = some (.inl (2, n1))) (h2 : S b = some (.inl (2, n2))) (h3 : n1 < 2147483648) (h4 : n2 < 2147483648) (h5 : p + s.length ≤ n1) (h6 : q + s.length ≤ n2) (hab : a ≠ b) (h7 : Txt (I a) p s) :
    XC d 150 [.ref a, .int (w p), .ref b, .int (w q), .int (w s.length)] (mk S I L R G) Q ↔ Q (.inl none) (mk S (wr I b (pw (I b) q s)) L R G) := by
  cases s with
  | nil =>
    rw [pw_nil, wr_self]
    simp (disch := omega) only [q_150_0, q_150_2, q_150_5, q_150_6, q_150_9, q_150_10, q_150_13, q_150_14, q_150_15, q_150_16, q_150_18, q_150_19, q_150_22, q_150_23, q_150_24, q_150_25, q_150_27, q_150_28, q_150_31, q_150_32, q_150_33, q_150_34, q_150_35, q_150_40, q_150_e, va_rf_s, bz_0, bz_1, bz_ok, bb_ok, Nat.add_assoc, w_lt, w_add, w_sub, w_mul, w_div, em_def, w_eq, w_inT, ↓ilt_t, ↓ilt_f, ↓ieq_t, ↓ieq_f, ntT, w_b, w_ix, kx_v, kx_n, kl_n, kl_i, kl_r, kl_o, inA_i, inA_s, inA_b, inA_z, inA_l, inA_0, inA_4, inA_5, inA_6, inA_7, inA_8, inA_9, inA_10, al_0, al_1, al_2, al_4, al_5, al_98, bsP_2, bsP_3, wr_same, wr_wr, wr_ne, up_same, up_ne, Nat.reduceAdd, Int.reduceAdd, Int.reduceSub, Int.reduceMul, Int.reduceLT, Int.reduceLE, Int.reduceEq, Int.reduceNeg, Int.reduceToNat, Nat.reduceLT, Nat.reduceLeDiff, Nat.reduceEqDiff, ↓reduceIte, true_and, and_true, not_true_eq_false, not_false_eq_true, eq_self, or_true, true_or, or_false, false_or, if_true, if_false, Int.toNat_natCast, w_ite, Nat.add_zero, reduceCtorEq, ne_eq, h1, h2, List.length_nil, Int.natCast_zero]
  | cons x s =>
    have hl : 0 < (x :: s).length := by rw [List.length_cons]; omega
    generalize x :: s = s at *
    simp (disch := omega) only [q_150_0, q_150_2, q_150_5, q_150_6, q_150_9, q_150_10, q_150_13, q_150_14, q_150_15, q_150_16, q_150_18, q_150_19, q_150_22, q_150_23, q_150_24, q_150_25, q_150_27, q_150_28, q_150_31, q_150_32, q_150_33, q_150_34, q_150_35, q_150_40, q_150_e, va_rf_s, bz_0, bz_1, bz_ok, bb_ok, Nat.add_assoc, w_lt, w_add, w_sub, w_mul, w_div, em_def, w_eq, w_inT, ↓ilt_t, ↓ilt_f, ↓ieq_t, ↓ieq_f, ntT, w_b, w_ix, kx_v, kx_n, kl_n, kl_i, kl_r, kl_o, inA_i, inA_s, inA_b, inA_z, inA_l, inA_0, inA_4, inA_5, inA_6, inA_7, inA_8, inA_9, inA_10, al_0, al_1, al_2, al_4, al_5, al_98, bsP_2, bsP_3, wr_same, wr_wr, wr_ne, up_same, up_ne, Nat.reduceAdd, Int.reduceAdd, Int.reduceSub, Int.reduceMul, Int.reduceLT, Int.reduceLE, Int.reduceEq, Int.reduceNeg, Int.reduceToNat, Nat.reduceLT, Nat.reduceLeDiff, Nat.reduceEqDiff, ↓reduceIte, true_and, and_true, not_true_eq_false, not_false_eq_true, eq_self, or_true, true_or, or_false, false_or, if_true, if_false, Int.toNat_natCast, w_ite, Nat.add_zero, reduceCtorEq, ne_eq, h1, h2]
    rw [if_neg (by omega), if_neg (by omega), q_150_37 h1 h2 (Or.inr rfl)]
    simp (disch := omega) only [q_150_0, q_150_2, q_150_5, q_150_6, q_150_9, q_150_10, q_150_13, q_150_14, q_150_15, q_150_16, q_150_18, q_150_19, q_150_22, q_150_23, q_150_24, q_150_25, q_150_27, q_150_28, q_150_31, q_150_32, q_150_33, q_150_34, q_150_35, q_150_40, q_150_e, va_rf_s, bz_0, bz_1, bz_ok, bb_ok, Nat.add_assoc, w_lt, w_add, w_sub, w_mul, w_div, em_def, w_eq, w_inT, ↓ilt_t, ↓ilt_f, ↓ieq_t, ↓ieq_f, ntT, w_b, w_ix, kx_v, kx_n, kl_n, kl_i, kl_r, kl_o, inA_i, inA_s, inA_b, inA_z, inA_l, inA_0, inA_4, inA_5, inA_6, inA_7, inA_8, inA_9, inA_10, al_0, al_1, al_2, al_4, al_5, al_98, bsP_2, bsP_3, wr_same, wr_wr, wr_ne, up_same, up_ne, Nat.reduceAdd, Int.reduceAdd, Int.reduceSub, Int.reduceMul, Int.reduceLT, Int.reduceLE, Int.reduceEq, Int.reduceNeg, Int.reduceToNat, Nat.reduceLT, Nat.reduceLeDiff, Nat.reduceEqDiff, ↓reduceIte, true_and, and_true, not_true_eq_false, not_false_eq_true, eq_self, or_true, true_or, or_false, false_or, if_true, if_false, Int.toNat_natCast, w_ite, Nat.add_zero, reduceCtorEq, ne_eq]
    rw [cpy_pw h7]
    exact ⟨fun h => h.2, fun h => ⟨⟨by omega, by omega⟩, h⟩⟩
def keptI (I : MI) (a : Nat) (n : Int) (t : List Int) (k h : Int) : MI := wr (wr (wr (wr (wr I (a + 1) (pw (I (a + 1)) (sl n * 100) t)) (a + 2) (up (I (a + 2)) (sl n) (w n))) (a + 3) (up (I (a + 3)) (sl n) (w t.length))) (a + 4) (up (I (a + 4)) (sl n) (w k))) (a + 5) (up (I (a + 5)) (sl n) (w h))
theorem sp_35 {a tx m p : Nat} {n k h : Int} {t : List Int} (hM : MemoS S a) (h1 : 0 ≤ n) (h2 : n < 2147483648) (h3 : t.length ≤ 100) (h4 : S tx = some (.inl (2, m))) (h5 : p + t.length ≤ m) (h6 : m < 2147483648) (h7 : tx < a ∨ a + 5 < tx) (h8 : Txt (I tx) p t) :
    XC (d + 1) 35 [.ref a, .int (w n), .ref tx, .int (w p), .int (w t.length), .int (w k), .int (w h)] (mk S I L R G) Q ↔ Q (.inl none) (mk S (keptI I a n t k h) L R G) := by
  obtain ⟨g0, g1, g2, g3, g4, g5⟩ := hM
  have hb := slot_bd n
  have hs := sl_bd n
  have e : slot n * 100 = ((sl n * 100 : Nat) : Int) := by rw [Int.natCast_mul, sl_c]; rfl
  unfold keptI
  simp (disch := omega) only [q_35_0, q_35_1, q_35_4, q_35_6, q_35_8, q_35_11, q_35_12, q_35_13, q_35_14, q_35_17, q_35_19, q_35_20, q_35_21, q_35_22, q_35_25, q_35_27, q_35_29, q_35_30, q_35_35, q_35_36, q_35_39, q_35_41, q_35_42, q_35_43, q_35_44, q_35_47, q_35_49, q_35_51, q_35_52, q_35_53, q_35_56, q_35_58, q_35_60, q_35_61, q_35_62, q_35_65, q_35_67, q_35_69, q_35_70, q_35_e, va_rf_s, bz_0, bz_1, bz_ok, bb_ok, Nat.add_assoc, w_lt, w_add, w_sub, w_mul, w_div, em_def, w_eq, w_inT, ↓ilt_t, ↓ilt_f, ↓ieq_t, ↓ieq_f, ntT, w_b, w_ix, kx_v, kx_n, kl_n, kl_i, kl_r, kl_o, inA_i, inA_s, inA_b, inA_z, inA_l, inA_0, inA_4, inA_5, inA_6, inA_7, inA_8, inA_9, inA_10, al_0, al_1, al_2, al_4, al_5, al_98, bsP_2, bsP_3, wr_same, wr_wr, wr_ne, up_same, up_ne, Nat.reduceAdd, Int.reduceAdd, Int.reduceSub, Int.reduceMul, Int.reduceLT, Int.reduceLE, Int.reduceEq, Int.reduceNeg, Int.reduceToNat, Nat.reduceLT, Nat.reduceLeDiff, Nat.reduceEqDiff, ↓reduceIte, true_and, and_true, not_true_eq_false, not_false_eq_true, eq_self, or_true, true_or, or_false, false_or, if_true, if_false, Int.toNat_natCast, w_ite, Nat.add_zero, reduceCtorEq, ne_eq, sp_27, g0, e]
  rw [q_35_32, sp_150 h4 g1 h6 (by omega) h5 (by omega) (by omega) h8]
  simp (disch := omega) only [q_35_0, q_35_1, q_35_4, q_35_6, q_35_8, q_35_11, q_35_12, q_35_13, q_35_14, q_35_17, q_35_19, q_35_20, q_35_21, q_35_22, q_35_25, q_35_27, q_35_29, q_35_30, q_35_35, q_35_36, q_35_39, q_35_41, q_35_42, q_35_43, q_35_44, q_35_47, q_35_49, q_35_51, q_35_52, q_35_53, q_35_56, q_35_58, q_35_60, q_35_61, q_35_62, q_35_65, q_35_67, q_35_69, q_35_70, q_35_e, va_rf_s, bz_0, bz_1, bz_ok, bb_ok, Nat.add_assoc, w_lt, w_add, w_sub, w_mul, w_div, em_def, w_eq, w_inT, ↓ilt_t, ↓ilt_f, ↓ieq_t, ↓ieq_f, ntT, w_b, w_ix, kx_v, kx_n, kl_n, kl_i, kl_r, kl_o, inA_i, inA_s, inA_b, inA_z, inA_l, inA_0, inA_4, inA_5, inA_6, inA_7, inA_8, inA_9, inA_10, al_0, al_1, al_2, al_4, al_5, al_98, bsP_2, bsP_3, wr_same, wr_wr, wr_ne, up_same, up_ne, Nat.reduceAdd, Int.reduceAdd, Int.reduceSub, Int.reduceMul, Int.reduceLT, Int.reduceLE, Int.reduceEq, Int.reduceNeg, Int.reduceToNat, Nat.reduceLT, Nat.reduceLeDiff, Nat.reduceEqDiff, ↓reduceIte, true_and, and_true, not_true_eq_false, not_false_eq_true, eq_self, or_true, true_or, or_false, false_or, if_true, if_false, Int.toNat_natCast, w_ite, Nat.add_zero, reduceCtorEq, ne_eq, sp_27, g0, g1, g2, g3, g4, g5, sl_w]
end
theorem gi_wr {I : MI} {a j : Nat} {f : Nat → Int32} : gi (wr I a f) a j = (f j).toInt := by unfold gi; rw [wr_same]
theorem up_ti {f : Nat → Int32} {k j : Nat} {x : Int} (h1 : -2147483648 ≤ x) (h2 : x < 2147483648) : (up f k (w x) j).toInt = if j = k then x else (f j).toInt := by
  by_cases h : j = k
  · subst h; rw [up_same, w_toInt h1 h2, if_pos rfl]
  · rw [up_ne h, if_neg h]
def CauS (S : SH) (c : Nat) : Prop := S c = some (.inr 1) ∧ S (c + 1) = some (.inl (0, 31)) ∧ S (c + 2) = some (.inl (0, 31)) ∧ S (c + 3) = some (.inl (0, 31)) ∧ S (c + 4) = some (.inl (0, 31))
def crow (I : MI) (c j : Nat) : C4 := (gi I (c + 1) j, gi I (c + 2) j, gi I (c + 3) j, gi I (c + 4) j)
def VoiS (S : SH) (v : Nat) : Prop := S v = some (.inr 9) ∧ MemoS S (v + 1) ∧ CauS S (v + 7) ∧ S (v + 12) = some (.inl (4, 30)) ∧ S (v + 13) = some (.inl (0, 30)) ∧ S (v + 14) = some (.inl (2, 3000)) ∧ S (v + 15) = some (.inl (0, 30)) ∧ S (v + 16) = some (.inl (0, 30))
/-- numbers that are being said, the innermost first -/
def opl (I : MI) (v dep : Nat) : List Int := ((List.range dep).map (fun i => gi I (v + 13) i)).reverse
theorem mem_opl {I : MI} {v dep : Nat} {n : Int} : n ∈ opl I v dep ↔ ∃ k, k < dep ∧ gi I (v + 13) k = n := by
  unfold opl; rw [List.mem_reverse, List.mem_map]
  constructor
  · rintro ⟨k, hk, h⟩; exact ⟨k, List.mem_range.mp hk, h⟩
  · rintro ⟨k, hk, h⟩; exact ⟨k, List.mem_range.mpr hk, h⟩
theorem opl_succ {I : MI} {v dep : Nat} : opl I v (dep + 1) = gi I (v + 13) dep :: opl I v dep := by
  unfold opl; rw [List.range_succ, List.map_append, List.reverse_append]; rfl
theorem opl_congr {I I' : MI} {v dep : Nat} (h : ∀ i, i < dep → I' (v + 13) i = I (v + 13) i) : opl I' v dep = opl I v dep := by
  unfold opl
  congr 1
  apply List.map_congr_left
  intro i hi
  unfold gi
  rw [h i (List.mem_range.mp hi)]
def rd0 : Rl := (0, 0, 1, 0, [])
/-- a row of references to rules -/
def RsAt (S : SH) (I : MI) (L : ML) (R : MR) (v : Nat) (rs : List Rl) : Prop := I v 3 = w rs.length ∧ rs.length ≤ 30 ∧ ∀ i, i < rs.length → ∃ r, R (v + 12) i = some r ∧ v + 17 ≤ r ∧ RuleAt S I L r (rs.getD i rd0)
def ffz (rs : List Rl) (n : Int) : Int := match ff rs n with
  | some k => k
  | none => -1
section
variable {d : Nat} {Q : XO → Hp → Prop} {S : SH} {I : MI} {L : ML} {R : MR} {G : MG} {A : Hp}
theorem sp_9 {c dep : Nat} {n k r i : Int} (hC : CauS S c) (hd : dep < 31) (n1 : -2147483648 ≤ n) (n2 : n < 2147483648) (k1 : 0 ≤ k) (k2 : k < 7) (r1 : -1 ≤ r) (r2 : r < 31) (i1 : -1 ≤ i) (i2 : i < 7)
    (hQ : ∀ I' : MI, (∀ a, (a < c ∨ c + 4 < a) → I' a = I a) → (∀ j, j ≠ dep → crow I' c j = crow I c j) → crow I' c dep = (n, k, r, i) → gi I' c 4 = (if k = 0 then gi I c 4 else dep + 1) → Q (.inl (some (.int (w 0)))) (mk S I' L R G)) :
    XC d 9 [.ref c, .int (w dep), .int (w n), .int (w k), .int (w r), .int (w i)] (mk S I L R G) Q := by
  obtain ⟨g0, g1, g2, g3, g4⟩ := hC
  have hg : ∀ a j, (I a j).toInt = gi I a j := fun _ _ => rfl
  simp (disch := omega) only [q_9_0, q_9_1, q_9_4, q_9_5, q_9_7, q_9_10, q_9_11, q_9_14, q_9_15, q_9_16, q_9_17, q_9_18, q_9_21, q_9_22, q_9_23, q_9_24, q_9_25, q_9_28, q_9_29, q_9_31, q_9_32, q_9_33, q_9_36, q_9_37, q_9_39, q_9_40, q_9_41, q_9_44, q_9_45, q_9_46, q_9_47, q_9_48, q_9_51, q_9_52, q_9_e, va_rf_s, bz_0, bz_1, bz_ok, bb_ok, Nat.add_assoc, w_lt, w_add, w_sub, w_mul, w_div, em_def, w_eq, w_inT, ↓ilt_t, ↓ilt_f, ↓ieq_t, ↓ieq_f, ntT, w_b, w_ix, kx_v, kx_n, kl_n, kl_i, kl_r, kl_o, inA_i, inA_s, inA_b, inA_z, inA_l, inA_0, inA_4, inA_5, inA_6, inA_7, inA_8, inA_9, inA_10, al_0, al_1, al_2, al_4, al_5, al_98, bsP_2, bsP_3, wr_same, wr_wr, wr_ne, up_same, up_ne, Nat.reduceAdd, Int.reduceAdd, Int.reduceSub, Int.reduceMul, Int.reduceLT, Int.reduceLE, Int.reduceEq, Int.reduceNeg, Int.reduceToNat, Nat.reduceLT, Nat.reduceLeDiff, Nat.reduceEqDiff, ↓reduceIte, true_and, and_true, not_true_eq_false, not_false_eq_true, eq_self, or_true, true_or, or_false, false_or, if_true, if_false, Int.toNat_natCast, w_ite, Nat.add_zero, reduceCtorEq, ne_eq, g0, g1, g2, g3, g4]
  split
  · refine hQ _ (fun a ha => ?_) (fun j hj => ?_) ?_ ?_
    · simp (disch := omega) only [wr_ne]
    · unfold crow; simp (disch := omega) only [gi_ne, gi_wr, up_ne, hg]
    · unfold crow; simp (disch := omega) only [gi_ne, gi_wr, up_same, w_toInt, hg]
    · simp (disch := omega) only [gi_ne, gi_wr, up_same, w_toInt, hg, if_pos]
  · refine hQ _ (fun a ha => ?_) (fun j hj => ?_) ?_ ?_
    · simp (disch := omega) only [wr_ne]
    · unfold crow; simp (disch := omega) only [gi_ne, gi_wr, up_ne, hg]
    · unfold crow; simp (disch := omega) only [gi_ne, gi_wr, up_same, w_toInt, hg]
    · simp (disch := omega) only [gi_ne, gi_wr, up_same, w_toInt, hg, if_neg]
theorem sp_90 {v dep : Nat} {n : Int} (hV : VoiS S v) (hd : dep ≤ 30) (n1 : -2147483648 ≤ n) (n2 : n < 2147483648) : XC d 90 [.ref v, .int (w n), .int (w dep)] (mk S I L R G) Q ↔ Q (.inl (some (.int (w (if n < 0 ∨ 999999999 < n then 2 else if n ∈ opl I v dep then 3 else if dep = 30 then 4 else if 0 < dep ∧ 1000 ≤ gi I v 9 then 6 else -1))))) (mk S I L R G) := by
  obtain ⟨g0, g1, g2, g3, g4, g5, g6, g7⟩ := hV
  have hI := gi_w I
  have b9 := gi_bd I v 9
  have lp : ∀ (j i : Nat), i + j = dep → 0 ≤ n → n ≤ 999999999 → (∀ k, k < i → gi I (v + 13) k ≠ n) → (XX d 90 14 [some (.ref v), some (.int (w n)), some (.int (w dep)), some (.int (w i))] [] (mk S I L R G) Q ↔ Q (.inl (some (.int (w (if n ∈ opl I v dep then 3 else if dep = 30 then 4 else if 0 < dep ∧ 1000 ≤ gi I v 9 then 6 else -1))))) (mk S I L R G)) := by
    intro j
    induction j with
    | zero =>
      intro i hi m1 m2 hk
      have hno : ¬ n ∈ opl I v dep := by
        rw [mem_opl]; rintro ⟨k, h1, h2⟩; exact hk k (by omega) h2
      rw [q_90_14, if_neg hno]
      simp (disch := omega) only [q_90_0, q_90_1, q_90_4, q_90_5, q_90_7, q_90_10, q_90_11, q_90_12, q_90_13, q_90_15, q_90_16, q_90_19, q_90_20, q_90_22, q_90_25, q_90_26, q_90_29, q_90_30, q_90_31, q_90_32, q_90_35, q_90_36, q_90_37, q_90_40, q_90_43, q_90_44, q_90_46, q_90_49, q_90_50, q_90_51, q_90_52, q_90_55, q_90_56, q_90_59, q_90_62, q_90_65, q_90_67, q_90_70, q_90_71, q_90_e, va_rf_s, bz_0, bz_1, bz_ok, bb_ok, Nat.add_assoc, w_lt, w_add, w_sub, w_mul, w_div, em_def, w_eq, w_inT, ↓ilt_t, ↓ilt_f, ↓ieq_t, ↓ieq_f, ntT, w_b, w_ix, kx_v, kx_n, kl_n, kl_i, kl_r, kl_o, inA_i, inA_s, inA_b, inA_z, inA_l, inA_0, inA_4, inA_5, inA_6, inA_7, inA_8, inA_9, inA_10, al_0, al_1, al_2, al_4, al_5, al_98, bsP_2, bsP_3, wr_same, wr_wr, wr_ne, up_same, up_ne, Nat.reduceAdd, Int.reduceAdd, Int.reduceSub, Int.reduceMul, Int.reduceLT, Int.reduceLE, Int.reduceEq, Int.reduceNeg, Int.reduceToNat, Nat.reduceLT, Nat.reduceLeDiff, Nat.reduceEqDiff, ↓reduceIte, true_and, and_true, not_true_eq_false, not_false_eq_true, eq_self, or_true, true_or, or_false, false_or, if_true, if_false, Int.toNat_natCast, w_ite, Nat.add_zero, reduceCtorEq, ne_eq, g0, g4, hI]
      by_cases c1 : dep = 30
      · rw [if_neg (by omega), if_pos c1]
      · rw [if_pos (by omega), if_neg c1]
        by_cases c2 : 0 < dep
        · rw [if_pos (by omega)]
          by_cases c3 : gi I v 9 < 1000
          · rw [if_pos c3, if_neg (by omega)]
          · rw [if_neg c3, if_pos (by omega)]
        · rw [if_neg (by omega), if_neg (by omega)]
    | succ j ih =>
      intro i hi m1 m2 hk
      have b13 := gi_bd I (v + 13) i
      rw [q_90_14]
      simp (disch := omega) only [q_90_0, q_90_1, q_90_4, q_90_5, q_90_7, q_90_10, q_90_11, q_90_12, q_90_13, q_90_15, q_90_16, q_90_19, q_90_20, q_90_22, q_90_25, q_90_26, q_90_29, q_90_30, q_90_31, q_90_32, q_90_35, q_90_36, q_90_37, q_90_40, q_90_43, q_90_44, q_90_46, q_90_49, q_90_50, q_90_51, q_90_52, q_90_55, q_90_56, q_90_59, q_90_62, q_90_65, q_90_67, q_90_70, q_90_71, q_90_e, va_rf_s, bz_0, bz_1, bz_ok, bb_ok, Nat.add_assoc, w_lt, w_add, w_sub, w_mul, w_div, em_def, w_eq, w_inT, ↓ilt_t, ↓ilt_f, ↓ieq_t, ↓ieq_f, ntT, w_b, w_ix, kx_v, kx_n, kl_n, kl_i, kl_r, kl_o, inA_i, inA_s, inA_b, inA_z, inA_l, inA_0, inA_4, inA_5, inA_6, inA_7, inA_8, inA_9, inA_10, al_0, al_1, al_2, al_4, al_5, al_98, bsP_2, bsP_3, wr_same, wr_wr, wr_ne, up_same, up_ne, Nat.reduceAdd, Int.reduceAdd, Int.reduceSub, Int.reduceMul, Int.reduceLT, Int.reduceLE, Int.reduceEq, Int.reduceNeg, Int.reduceToNat, Nat.reduceLT, Nat.reduceLeDiff, Nat.reduceEqDiff, ↓reduceIte, true_and, and_true, not_true_eq_false, not_false_eq_true, eq_self, or_true, true_or, or_false, false_or, if_true, if_false, Int.toNat_natCast, w_ite, Nat.add_zero, reduceCtorEq, ne_eq, g0, g4, hI]
      split
      · rename_i he
        have hyes : n ∈ opl I v dep := mem_opl.mpr ⟨i, by omega, he⟩
        rw [if_pos hyes]
      · rename_i he
        have := ih (i + 1) (by omega) m1 m2 (fun k hk' => by
          rcases Nat.lt_or_ge k i with h | h
          · exact hk k h
          · have : k = i := by omega
            subst this; exact he)
        simp only [Int.natCast_add, Int.natCast_one] at this
        exact this
  simp (disch := omega) only [q_90_0, q_90_1, q_90_4, q_90_5, q_90_7, q_90_10, q_90_11, q_90_12, q_90_13, q_90_15, q_90_16, q_90_19, q_90_20, q_90_22, q_90_25, q_90_26, q_90_29, q_90_30, q_90_31, q_90_32, q_90_35, q_90_36, q_90_37, q_90_40, q_90_43, q_90_44, q_90_46, q_90_49, q_90_50, q_90_51, q_90_52, q_90_55, q_90_56, q_90_59, q_90_62, q_90_65, q_90_67, q_90_70, q_90_71, q_90_e, va_rf_s, bz_0, bz_1, bz_ok, bb_ok, Nat.add_assoc, w_lt, w_add, w_sub, w_mul, w_div, em_def, w_eq, w_inT, ↓ilt_t, ↓ilt_f, ↓ieq_t, ↓ieq_f, ntT, w_b, w_ix, kx_v, kx_n, kl_n, kl_i, kl_r, kl_o, inA_i, inA_s, inA_b, inA_z, inA_l, inA_0, inA_4, inA_5, inA_6, inA_7, inA_8, inA_9, inA_10, al_0, al_1, al_2, al_4, al_5, al_98, bsP_2, bsP_3, wr_same, wr_wr, wr_ne, up_same, up_ne, Nat.reduceAdd, Int.reduceAdd, Int.reduceSub, Int.reduceMul, Int.reduceLT, Int.reduceLE, Int.reduceEq, Int.reduceNeg, Int.reduceToNat, Nat.reduceLT, Nat.reduceLeDiff, Nat.reduceEqDiff, ↓reduceIte, true_and, and_true, not_true_eq_false, not_false_eq_true, eq_self, or_true, true_or, or_false, false_or, if_true, if_false, Int.toNat_natCast, w_ite, Nat.add_zero, reduceCtorEq, ne_eq, g0]
  by_cases c1 : n < 0
  · rw [if_pos c1, if_pos (Or.inl c1)]
  · rw [if_neg c1]
    by_cases c2 : 999999999 < n
    · rw [if_pos c2, if_pos (Or.inr c2)]
    · rw [if_neg c2, if_neg (by omega)]
      have := lp dep 0 (by omega) (by omega) (by omega) (fun k h => by omega)
      simp only [Int.natCast_zero] at this
      exact this
theorem sp_91 {v dep : Nat} {n : Int} (hV : VoiS S v) (hd : dep ≤ 30) (n1 : -2147483648 ≤ n) (n2 : n < 2147483648) (a1 : 0 ≤ gi I v 9) (a2 : gi I v 9 ≤ 1000) (hm : mSaid I (v + 1) n = true → 0 ≤ gi I (v + 5) (sl n) ∧ gi I (v + 5) (sl n) ≤ 1000 ∧ 0 ≤ gi I (v + 6) (sl n) ∧ gi I (v + 6) (sl n) ≤ 30) :
    XC (d + 2) 91 [.ref v, .int (w n), .int (w dep)] (mk S I L R G) Q ↔ if mSaid I (v + 1) n = true ∧ dep + gi I (v + 6) (sl n) ≤ 30 ∧ gi I v 9 + gi I (v + 5) (sl n) ≤ 1000 then Q (.inl (some (.int (w 1)))) (mk S (wr I v (up (I v) 9 (w (gi I v 9 + gi I (v + 5) (sl n))))) L R G) else Q (.inl (some (.int (w 0)))) (mk S I L R G) := by
  obtain ⟨g0, g1, g2, g3, g4, g5, g6, g7⟩ := hV
  obtain ⟨m0, m1, m2, m3, m4, m5⟩ := id g1
  simp only [Nat.add_assoc, Nat.reduceAdd] at m1 m2 m3 m4 m5
  have hI := gi_w I
  have hs := sl_bd n
  have hb := slot_bd n
  simp (disch := omega) only [q_91_0, q_91_1, q_91_4, q_91_5, q_91_8, q_91_9, q_91_10, q_91_13, q_91_14, q_91_21, q_91_22, q_91_25, q_91_28, q_91_29, q_91_30, q_91_31, q_91_33, q_91_36, q_91_37, q_91_40, q_91_41, q_91_44, q_91_47, q_91_48, q_91_49, q_91_50, q_91_53, q_91_56, q_91_57, q_91_58, q_91_59, q_91_60, q_91_63, q_91_64, q_91_67, q_91_70, q_91_71, q_91_72, q_91_73, q_91_76, q_91_77, q_91_e, q_91_17, va_rf_s, bz_0, bz_1, bz_ok, bb_ok, Nat.add_assoc, w_lt, w_add, w_sub, w_mul, w_div, em_def, w_eq, w_inT, ↓ilt_t, ↓ilt_f, ↓ieq_t, ↓ieq_f, ntT, w_b, w_ix, kx_v, kx_n, kl_n, kl_i, kl_r, kl_o, inA_i, inA_s, inA_b, inA_z, inA_l, inA_0, inA_4, inA_5, inA_6, inA_7, inA_8, inA_9, inA_10, al_0, al_1, al_2, al_4, al_5, al_98, bsP_2, bsP_3, wr_same, wr_wr, wr_ne, up_same, up_ne, Nat.reduceAdd, Int.reduceAdd, Int.reduceSub, Int.reduceMul, Int.reduceLT, Int.reduceLE, Int.reduceEq, Int.reduceNeg, Int.reduceToNat, Nat.reduceLT, Nat.reduceLeDiff, Nat.reduceEqDiff, ↓reduceIte, true_and, and_true, not_true_eq_false, not_false_eq_true, eq_self, or_true, true_or, or_false, false_or, if_true, if_false, Int.toNat_natCast, w_ite, Nat.add_zero, reduceCtorEq, ne_eq, sp_27, sp_30 g1, g0, m0, m4, m5, sl_w, hI]
  by_cases c1 : mSaid I (v + 1) n = true
  · obtain ⟨k1, k2, k3, k4⟩ := hm c1
    rw [if_neg (by rw [c1]; decide)]
    simp (disch := omega) only [q_91_0, q_91_1, q_91_4, q_91_5, q_91_8, q_91_9, q_91_10, q_91_13, q_91_14, q_91_17, q_91_20, q_91_21, q_91_22, q_91_25, q_91_28, q_91_29, q_91_30, q_91_31, q_91_33, q_91_36, q_91_37, q_91_40, q_91_41, q_91_44, q_91_47, q_91_48, q_91_49, q_91_50, q_91_53, q_91_56, q_91_57, q_91_58, q_91_59, q_91_60, q_91_63, q_91_64, q_91_67, q_91_70, q_91_71, q_91_72, q_91_73, q_91_76, q_91_77, q_91_e, va_rf_s, bz_0, bz_1, bz_ok, bb_ok, Nat.add_assoc, w_lt, w_add, w_sub, w_mul, w_div, em_def, w_eq, w_inT, ↓ilt_t, ↓ilt_f, ↓ieq_t, ↓ieq_f, ntT, w_b, w_ix, kx_v, kx_n, kl_n, kl_i, kl_r, kl_o, inA_i, inA_s, inA_b, inA_z, inA_l, inA_0, inA_4, inA_5, inA_6, inA_7, inA_8, inA_9, inA_10, al_0, al_1, al_2, al_4, al_5, al_98, bsP_2, bsP_3, wr_same, wr_wr, wr_ne, up_same, up_ne, Nat.reduceAdd, Int.reduceAdd, Int.reduceSub, Int.reduceMul, Int.reduceLT, Int.reduceLE, Int.reduceEq, Int.reduceNeg, Int.reduceToNat, Nat.reduceLT, Nat.reduceLeDiff, Nat.reduceEqDiff, ↓reduceIte, true_and, and_true, not_true_eq_false, not_false_eq_true, eq_self, or_true, true_or, or_false, false_or, if_true, if_false, Int.toNat_natCast, w_ite, Nat.add_zero, reduceCtorEq, ne_eq, sp_27, sp_30 g1, g0, m0, m4, m5, sl_w, hI]
    by_cases c2 : 30 < (dep : Int) + gi I (v + 6) (sl n)
    · rw [if_pos c2, if_neg (by omega)]
    · rw [if_neg c2]
      by_cases c3 : 1000 < gi I v 9 + gi I (v + 5) (sl n)
      · rw [if_pos c3, if_neg (by omega)]
      · rw [if_neg c3, if_pos ⟨c1, by omega, by omega⟩]
  · rw [if_pos (by simpa using c1), if_neg (fun h => c1 h.1)]
theorem sp_82 {v : Nat} {rs : List Rl} {n : Int} (hV : VoiS S v) (hR : RsAt S I L R v rs) (n1 : 0 ≤ n) (n2 : n ≤ 999999999) : XC (d + 1) 82 [.ref v, .int (w n)] (mk S I L R G) Q ↔ Q (.inl (some (.int (w (ffz rs n))))) (mk S I L R G) := by
  obtain ⟨g0, g1, g2, g3, g4, g5, g6, g7⟩ := hV
  obtain ⟨r1, r2, r3⟩ := hR
  have lp : ∀ (j i : Nat) (o : Option Value), i + j = rs.length → (XX (d + 1) 82 2 [some (.ref v), some (.int (w n)), some (.int (w i)), o] [] (mk S I L R G) Q ↔ Q (.inl (some (.int (w (match (rs.drop i).findIdx? (fun ρ => rl_fit ρ n) with | some k => ((i + k : Nat) : Int) | none => -1))))) (mk S I L R G)) := by
    intro j
    induction j with
    | zero =>
      intro i o hi
      rw [q_82_2]
      simp (disch := omega) only [q_82_0, q_82_1, q_82_3, q_82_4, q_82_7, q_82_10, q_82_11, q_82_13, q_82_16, q_82_17, q_82_20, q_82_21, q_82_22, q_82_22o, q_82_23, q_82_23o, q_82_24o, q_82_24, q_82_27, q_82_27o, q_82_28, q_82_29, q_82_32, q_82_35, q_82_36, q_82_37, q_82_40, q_82_43, q_82_44, q_82_e, va_rf_s, bz_0, bz_1, bz_ok, bb_ok, Nat.add_assoc, w_lt, w_add, w_sub, w_mul, w_div, em_def, w_eq, w_inT, ↓ilt_t, ↓ilt_f, ↓ieq_t, ↓ieq_f, ntT, w_b, w_ix, kx_v, kx_n, kl_n, kl_i, kl_r, kl_o, inA_i, inA_s, inA_b, inA_z, inA_l, inA_0, inA_4, inA_5, inA_6, inA_7, inA_8, inA_9, inA_10, al_0, al_1, al_2, al_4, al_5, al_98, bsP_2, bsP_3, wr_same, wr_wr, wr_ne, up_same, up_ne, Nat.reduceAdd, Int.reduceAdd, Int.reduceSub, Int.reduceMul, Int.reduceLT, Int.reduceLE, Int.reduceEq, Int.reduceNeg, Int.reduceToNat, Nat.reduceLT, Nat.reduceLeDiff, Nat.reduceEqDiff, ↓reduceIte, true_and, and_true, not_true_eq_false, not_false_eq_true, eq_self, or_true, true_or, or_false, false_or, if_true, if_false, Int.toNat_natCast, w_ite, Nat.add_zero, reduceCtorEq, ne_eq, g0, r1]
      rw [List.drop_eq_nil_of_le (by omega)]
      exact Iff.rfl
    | succ j ih =>
      intro i o hi
      obtain ⟨r, h1, h2, h3⟩ := r3 i (by omega)
      have hd : rs.drop i = rs.getD i rd0 :: rs.drop (i + 1) := by
        rw [List.drop_eq_getElem_cons (by omega), List.getD_eq_getElem?_getD, List.getElem?_eq_getElem (by omega)]; rfl
      rw [q_82_2]
      simp (disch := omega) only [q_82_0, q_82_1, q_82_3, q_82_4, q_82_7, q_82_10, q_82_11, q_82_13, q_82_16, q_82_17, q_82_20, q_82_21, q_82_22, q_82_22o, q_82_23, q_82_23o, q_82_24o, q_82_24, q_82_27, q_82_27o, q_82_28, q_82_29, q_82_32, q_82_35, q_82_36, q_82_37, q_82_40, q_82_43, q_82_44, q_82_e, va_rf_s, bz_0, bz_1, bz_ok, bb_ok, Nat.add_assoc, w_lt, w_add, w_sub, w_mul, w_div, em_def, w_eq, w_inT, ↓ilt_t, ↓ilt_f, ↓ieq_t, ↓ieq_f, ntT, w_b, w_ix, kx_v, kx_n, kl_n, kl_i, kl_r, kl_o, inA_i, inA_s, inA_b, inA_z, inA_l, inA_0, inA_4, inA_5, inA_6, inA_7, inA_8, inA_9, inA_10, al_0, al_1, al_2, al_4, al_5, al_98, bsP_2, bsP_3, wr_same, wr_wr, wr_ne, up_same, up_ne, Nat.reduceAdd, Int.reduceAdd, Int.reduceSub, Int.reduceMul, Int.reduceLT, Int.reduceLE, Int.reduceEq, Int.reduceNeg, Int.reduceToNat, Nat.reduceLT, Nat.reduceLeDiff, Nat.reduceEqDiff, ↓reduceIte, true_and, and_true, not_true_eq_false, not_false_eq_true, eq_self, or_true, true_or, or_false, false_or, if_true, if_false, Int.toNat_natCast, w_ite, Nat.add_zero, reduceCtorEq, ne_eq, g0, g3, r1, h1, h3.1, sp_56 h3 n1 n2]
      rw [hd, List.findIdx?_cons]
      by_cases hf : rl_fit (rs.getD i rd0) n = true
      · rw [if_neg (by rw [hf]; decide), hf]
        exact Iff.rfl
      · have hf : rl_fit (rs.getD i rd0) n = false := by simpa using hf
        rw [if_pos hf, hf]
        have := ih (i + 1) (some (.ref r)) (by omega)
        simp only [Int.natCast_add, Int.natCast_one] at this
        rw [this]
        cases (rs.drop (i + 1)).findIdx? (fun ρ => rl_fit ρ n) with
        | none => exact Iff.rfl
        | some k =>
          show Q (.inl (some (.int (w ((i + 1 + k : Int)))))) _ ↔ Q (.inl (some (.int (w ((i + (k + 1) : Nat) : Int))))) _
          rw [show ((i + 1 + k : Int)) = ((i + (k + 1) : Nat) : Int) by omega]
  have := lp rs.length 0 none (by omega)
  simp only [Int.natCast_zero, List.drop_zero, Nat.zero_add] at this
  simp (disch := omega) only [q_82_0, q_82_1, q_82_3, q_82_4, q_82_7, q_82_10, q_82_11, q_82_13, q_82_16, q_82_17, q_82_20, q_82_21, q_82_22, q_82_22o, q_82_23, q_82_23o, q_82_24o, q_82_24, q_82_27, q_82_27o, q_82_28, q_82_29, q_82_32, q_82_35, q_82_36, q_82_37, q_82_40, q_82_43, q_82_44, q_82_e, va_rf_s, bz_0, bz_1, bz_ok, bb_ok, Nat.add_assoc, w_lt, w_add, w_sub, w_mul, w_div, em_def, w_eq, w_inT, ↓ilt_t, ↓ilt_f, ↓ieq_t, ↓ieq_f, ntT, w_b, w_ix, kx_v, kx_n, kl_n, kl_i, kl_r, kl_o, inA_i, inA_s, inA_b, inA_z, inA_l, inA_0, inA_4, inA_5, inA_6, inA_7, inA_8, inA_9, inA_10, al_0, al_1, al_2, al_4, al_5, al_98, bsP_2, bsP_3, wr_same, wr_wr, wr_ne, up_same, up_ne, Nat.reduceAdd, Int.reduceAdd, Int.reduceSub, Int.reduceMul, Int.reduceLT, Int.reduceLE, Int.reduceEq, Int.reduceNeg, Int.reduceToNat, Nat.reduceLT, Nat.reduceLeDiff, Nat.reduceEqDiff, ↓reduceIte, true_and, and_true, not_true_eq_false, not_false_eq_true, eq_self, or_true, true_or, or_false, false_or, if_true, if_false, Int.toNat_natCast, w_ite, Nat.add_zero, reduceCtorEq, ne_eq]
  exact this
end

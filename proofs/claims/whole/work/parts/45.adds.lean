/-! the voice adds to a text -/
theorem pw_snoc {f : Nat → Int32} {p k : Nat} {s : List Int} (h : k < s.length) : up (pw f p (s.take k)) (p + k) (w (s.getD k 0)) = pw f p (s.take (k + 1)) := by
  funext j
  by_cases hj : j = p + k
  · subst hj
    rw [up_same]
    unfold pw
    rw [if_pos (by rw [List.length_take]; omega), Nat.add_sub_cancel_left, List.getD_eq_getElem?_getD, List.getD_eq_getElem?_getD, List.getElem?_take_of_lt (by omega)]
  · rw [up_ne hj]
    unfold pw
    rw [List.length_take, List.length_take]
    by_cases hk : p ≤ j ∧ j < p + k
    · rw [if_pos (by omega), if_pos (by omega), List.getD_eq_getElem?_getD, List.getD_eq_getElem?_getD, List.getElem?_take_of_lt (by omega), List.getElem?_take_of_lt (by omega)]
    · rw [if_neg (by omega), if_neg (by omega)]
theorem pw_zero {f : Nat → Int32} {p : Nat} {s : List Int} : pw f p (s.take 0) = f := pw_nil f p
theorem pw_one {f : Nat → Int32} {p : Nat} {x : Int} : pw f p [x] = up f p (w x) := by
  funext j
  unfold pw up
  by_cases h : j = p
  · subst h; rw [if_pos (by simp), if_pos rfl, Nat.sub_self]; rfl
  · rw [if_neg (by simp; omega), if_neg h]
theorem cat_txt {f : Nat → Int32} {p : Nat} {t q : List Int} {g : Bool} (h : Txt f p t) (hq : q ≠ []) : ∀ f' : Nat → Int32, (∀ j, j < p + t.length → f' j = f j) → (t ≠ [] ∧ g = false → f' (p + t.length) = w 32 ∧ Txt f' (p + t.length + 1) q) → (¬ (t ≠ [] ∧ g = false) → Txt f' (p + t.length) q) → Txt f' p (cat t g q) := by
  intro f' h1 h2 h3
  have h0 : Txt f' p t := Txt_congr h (fun j _ hj => h1 j hj)
  unfold cat
  by_cases c : t ≠ [] ∧ g = false
  · rw [if_pos c]
    obtain ⟨e1, e2⟩ := h2 c
    refine Txt_app h0 ?_
    intro i hi
    match i with
    | 0 => exact e1
    | i + 1 =>
      have := e2 i (by simpa using hi)
      rw [show p + t.length + 1 + i = p + t.length + (i + 1) by omega] at this
      rw [this]; rfl
  · rw [if_neg c]
    exact Txt_app h0 (h3 c)
theorem cat_len {t q : List Int} {g : Bool} : (cat t g q).length = t.length + (if t ≠ [] ∧ g = false then 1 else 0) + q.length := by
  unfold cat
  split
  · rw [List.length_append, List.length_cons]; omega
  · rw [List.length_append]; omega
theorem ne_nil_len {t : List Int} : t ≠ [] ↔ 0 < t.length := by
  cases t with
  | nil => simp
  | cons => simp
section
variable {d : Nat} {Q : XO → Hp → Prop} {S : SH} {I : MI} {L : ML} {R : MR} {G : MG} {A : Hp}
/-- the place for a part: whether a blank is due, whether there is room -/
theorem sp_95 {v dep : Nat} {t q : List Int} {g : Bool} (hV : VoiS S v) (hd : dep < 30) (hl : I (v + 15) dep = w t.length) (ht : t.length ≤ 100) (hq : q.length ≤ 100) :
    XC d 95 [.ref v, .int (w q.length), .int (w dep), .int (bz g)] (mk S I L R G) Q ↔ if 100 < (cat t g q).length then Q (.inl (some (.int (w 0)))) (mk S I L R G) else Q (.inl (some (.int (w 1)))) (mk S (if t ≠ [] ∧ g = false then wr (wr I (v + 14) (up (I (v + 14)) (dep * 100 + t.length) (w 32))) (v + 15) (up (I (v + 15)) dep (w (t.length + 1))) else I) L R G) := by
  obtain ⟨g0, g1, g2, g3, g4, g5, g6, g7⟩ := hV
  have e : ((dep : Int) * 100 + t.length).toNat = dep * 100 + t.length := by omega
  simp (disch := omega) only [q_95_0, q_95_1, q_95_4, q_95_5, q_95_6, q_95_8, q_95_10, q_95_13, q_95_14, q_95_17, q_95_18, q_95_21, q_95_22, q_95_24, q_95_26, q_95_28, q_95_31, q_95_32, q_95_35, q_95_36, q_95_37, q_95_38, q_95_39, q_95_41, q_95_44, q_95_45, q_95_46, q_95_48, q_95_51, q_95_52, q_95_55, q_95_56, q_95_58, q_95_59, q_95_61, q_95_62, q_95_64, q_95_65, q_95_66, q_95_69, q_95_70, q_95_72, q_95_73, q_95_74, q_95_75, q_95_76, q_95_e, va_rf_s, bz_0, bz_1, bz_ok, bb_ok, Nat.add_assoc, w_lt, w_add, w_sub, w_mul, w_div, em_def, w_eq, w_inT, ↓ilt_t, ↓ilt_f, ↓ieq_t, ↓ieq_f, ntT, w_b, w_ix, kx_v, kx_n, kl_n, kl_i, kl_r, kl_o, inA_i, inA_s, inA_b, inA_z, inA_l, inA_0, inA_4, inA_5, inA_6, inA_7, inA_8, inA_9, inA_10, al_0, al_1, al_2, al_4, al_5, al_98, bsP_2, bsP_3, wr_same, wr_wr, wr_ne, up_same, up_ne, Nat.reduceAdd, Int.reduceAdd, Int.reduceSub, Int.reduceMul, Int.reduceLT, Int.reduceLE, Int.reduceEq, Int.reduceNeg, Int.reduceToNat, Nat.reduceLT, Nat.reduceLeDiff, Nat.reduceEqDiff, ↓reduceIte, true_and, and_true, not_true_eq_false, not_false_eq_true, eq_self, or_true, true_or, or_false, false_or, if_true, if_false, Int.toNat_natCast, w_ite, Nat.add_zero, reduceCtorEq, ne_eq, g0, g5, g6, hl, e]
  rw [cat_len]
  by_cases c1 : 0 < (t.length : Int)
  · have c1' : t ≠ [] := ne_nil_len.mpr (by omega)
    cases g with
    | false =>
      have hc : t ≠ [] ∧ false = false := ⟨c1', rfl⟩
      rw [if_pos c1, if_pos rfl, if_pos hc, if_pos hc]
      by_cases c2 : 100 < t.length + 1 + q.length
      · rw [if_pos c2, if_pos (by omega)]
      · rw [if_neg c2, if_neg (by omega)]
    | true =>
      have hc : ¬ (t ≠ [] ∧ true = false) := fun h => by cases h.2
      rw [if_pos c1, if_neg (by decide), if_neg hc, if_neg hc]
      by_cases c2 : 100 < t.length + 0 + q.length
      · rw [if_pos c2, if_pos (by omega)]
      · rw [if_neg c2, if_neg (by omega)]
  · have hc : ¬ (t ≠ [] ∧ g = false) := fun h => by have := ne_nil_len.mp h.1; omega
    rw [if_neg c1, if_neg hc, if_neg hc, if_neg (show ¬ 100 < t.length + 0 + q.length by omega)]
/-- what adding a part leaves -/
def addP (I : MI) (v dep : Nat) (t : List Int) (I' : MI) : Prop := (∀ a, a ≠ v + 14 → a ≠ v + 15 → I' a = I a) ∧ (∀ i, i ≠ dep → I' (v + 15) i = I (v + 15) i) ∧ (∀ j, j < dep * 100 → I' (v + 14) j = I (v + 14) j) ∧ I' (v + 15) dep = w t.length ∧ Txt (I' (v + 14)) (dep * 100) t
theorem sp_93 {v dep i r : Nat} {ρ : Rl} {t : List Int} {g : Bool} (hV : VoiS S v) (hρ : RuleAt S I L r ρ) (hr : v + 17 ≤ r) (hi : i < ρ.2.2.2.2.length) (h0 : (ρ.2.2.2.2.getD i d0).1 = 0) (hd : dep < 30) (hl : I (v + 15) dep = w t.length) (ht : t.length ≤ 100) (hT : Txt (I (v + 14)) (dep * 100) t)
    (hQ0 : 100 < (cat t g (ρ.2.2.2.2.getD i d0).2.2).length → Q (.inl (some (.int (w 0)))) (mk S I L R G)) (hQ : ¬ 100 < (cat t g (ρ.2.2.2.2.getD i d0).2.2).length → ∀ I' : MI, addP I v dep (cat t g (ρ.2.2.2.2.getD i d0).2.2) I' → Q (.inl (some (.int (w 1)))) (mk S I' L R G)) :
    XC (d + 1) 93 [.ref v, .ref r, .int (w i), .int (w dep), .int (bz g)] (mk S I L R G) Q := by
  have hok := itOk_get hρ.2.2.2.2.2.2.2.2.2 hi
  have hS := hρ.1
  have hwl : (ρ.2.2.2.2.getD i d0).2.1 = (ρ.2.2.2.2.getD i d0).2.2.length ∧ 1 ≤ (ρ.2.2.2.2.getD i d0).2.2.length ∧ (ρ.2.2.2.2.getD i d0).2.2.length ≤ 8 ∧ ∀ b ∈ (ρ.2.2.2.2.getD i d0).2.2, 97 ≤ b ∧ b ≤ 122 := by
    rcases hok with ⟨e1, e2, e3, e4, e5⟩ | ⟨e1, -⟩ | ⟨e1, -⟩
    · exact ⟨e4, e2, e3, e5⟩
    · omega
    · omega
  obtain ⟨hw1, hw2, hw3, hw4⟩ := hwl
  obtain ⟨g0, g1, g2, g3, g4, g5, g6, g7⟩ := id hV
  simp (disch := omega) only [q_93_0, q_93_1, q_93_2, q_93_5, q_93_7, q_93_8, q_93_10, q_93_11, q_93_13, q_93_16, q_93_19, q_93_20, q_93_21, q_93_22, q_93_24, q_93_25, q_93_26, q_93_29, q_93_30, q_93_31, q_93_32, q_93_34, q_93_35, q_93_39, q_93_41, q_93_44, q_93_46, q_93_48, q_93_49, q_93_50, q_93_53, q_93_54, q_93_57, q_93_58, q_93_61, q_93_63, q_93_65, q_93_66, q_93_67, q_93_68, q_93_70, q_93_73, q_93_74, q_93_75, q_93_78, q_93_81, q_93_82, q_93_85, q_93_86, q_93_87, q_93_88, q_93_90, q_93_91, q_93_92, q_93_93, q_93_e, va_rf_s, bz_0, bz_1, bz_ok, bb_ok, Nat.add_assoc, w_lt, w_add, w_sub, w_mul, w_div, em_def, w_eq, w_inT, ↓ilt_t, ↓ilt_f, ↓ieq_t, ↓ieq_f, ntT, w_b, w_ix, kx_v, kx_n, kl_n, kl_i, kl_r, kl_o, inA_i, inA_s, inA_b, inA_z, inA_l, inA_0, inA_4, inA_5, inA_6, inA_7, inA_8, inA_9, inA_10, al_0, al_1, al_2, al_4, al_5, al_98, bsP_2, bsP_3, wr_same, wr_wr, wr_ne, up_same, up_ne, Nat.reduceAdd, Int.reduceAdd, Int.reduceSub, Int.reduceMul, Int.reduceLT, Int.reduceLE, Int.reduceEq, Int.reduceNeg, Int.reduceToNat, Nat.reduceLT, Nat.reduceLeDiff, Nat.reduceEqDiff, ↓reduceIte, true_and, and_true, not_true_eq_false, not_false_eq_true, eq_self, or_true, true_or, or_false, false_or, if_true, if_false, Int.toNat_natCast, w_ite, Nat.add_zero, reduceCtorEq, ne_eq, sp_58 hρ hi, sp_95 hV hd hl ht (show (ρ.2.2.2.2.getD i d0).2.2.length ≤ 100 by omega), g0, hS, hw1]
  generalize hq : (ρ.2.2.2.2.getD i d0).2.2 = q at *
  by_cases c1 : 100 < (cat t g q).length
  · rw [if_pos c1]
    exact hQ0 c1
  · rw [if_neg c1]
    have hQ := hQ c1
    rw [cat_len] at c1
    -- the heap behind the blank, its text's end
    obtain ⟨I1, e, hI1, hf1, hl1, hT1, hb1, he, he2⟩ : ∃ (I1 : MI) (e : Nat), I1 = (if t ≠ [] ∧ g = false then wr (wr I (v + 14) (up (I (v + 14)) (dep * 100 + t.length) (w 32))) (v + 15) (up (I (v + 15)) dep (w (t.length + 1))) else I) ∧ (∀ a, a ≠ v + 14 → a ≠ v + 15 → I1 a = I a) ∧ (I1 (v + 15) dep = w e ∧ ∀ i, i ≠ dep → I1 (v + 15) i = I (v + 15) i) ∧ (∀ j, j < dep * 100 + t.length → I1 (v + 14) j = I (v + 14) j) ∧ (t ≠ [] ∧ g = false → I1 (v + 14) (dep * 100 + t.length) = w 32) ∧ e = t.length + (if t ≠ [] ∧ g = false then 1 else 0) ∧ e + q.length = (cat t g q).length := by
      refine ⟨_, _, rfl, ?_, ?_, ?_, ?_, rfl, cat_len.symm⟩
      · intro a ha hb; split
        · rw [wr_ne hb, wr_ne ha]
        · rfl
      · split
        · rw [wr_same]; exact ⟨up_same, fun i hi => up_ne hi⟩
        · exact ⟨hl, fun _ _ => rfl⟩
      · intro j hj; split
        · rw [wr_ne (by omega), wr_same, up_ne (by omega)]
        · rfl
      · intro c; rw [if_pos c, wr_ne (by omega), wr_same, up_same]
    rw [← hI1]
    have hρ1 : RuleAt S I1 L r ρ := by
      obtain ⟨a0, a1, a2, a3, a4, a5, a6, a7, a8, a9⟩ := hρ
      unfold RuleAt
      rw [hf1 r (by omega) (by omega), hf1 (r + 1) (by omega) (by omega), hf1 (r + 2) (by omega) (by omega)]
      exact ⟨a0, a1, a2, a3, a4, a5, a6, a7, a8, a9⟩
    have hel : e ≤ 101 := by split at he <;> omega
    have lp : ∀ (j k : Nat), k + j = q.length → XX (d + 1) 93 37 [some (.ref v), some (.ref r), some (.int (w i)), some (.int (w dep)), some (.int (bz g)), some (.int (w q.length)), some (.int (w (dep * 100 + e))), some (.int (w k))] [] (mk S (wr I1 (v + 14) (pw (I1 (v + 14)) (dep * 100 + e) (q.take k))) L R G) Q := by
      intro j
      induction j with
      | zero =>
        intro k hk
        rw [q_93_37]
        simp (disch := omega) only [q_93_0, q_93_1, q_93_2, q_93_5, q_93_7, q_93_8, q_93_10, q_93_11, q_93_13, q_93_16, q_93_19, q_93_20, q_93_21, q_93_22, q_93_24, q_93_25, q_93_26, q_93_29, q_93_30, q_93_31, q_93_32, q_93_34, q_93_35, q_93_39, q_93_41, q_93_44, q_93_46, q_93_48, q_93_49, q_93_50, q_93_53, q_93_54, q_93_57, q_93_58, q_93_61, q_93_63, q_93_65, q_93_66, q_93_67, q_93_68, q_93_70, q_93_73, q_93_74, q_93_75, q_93_78, q_93_81, q_93_82, q_93_85, q_93_86, q_93_87, q_93_88, q_93_90, q_93_91, q_93_92, q_93_93, q_93_e, va_rf_s, bz_0, bz_1, bz_ok, bb_ok, Nat.add_assoc, w_lt, w_add, w_sub, w_mul, w_div, em_def, w_eq, w_inT, ↓ilt_t, ↓ilt_f, ↓ieq_t, ↓ieq_f, ntT, w_b, w_ix, kx_v, kx_n, kl_n, kl_i, kl_r, kl_o, inA_i, inA_s, inA_b, inA_z, inA_l, inA_0, inA_4, inA_5, inA_6, inA_7, inA_8, inA_9, inA_10, al_0, al_1, al_2, al_4, al_5, al_98, bsP_2, bsP_3, wr_same, wr_wr, wr_ne, up_same, up_ne, Nat.reduceAdd, Int.reduceAdd, Int.reduceSub, Int.reduceMul, Int.reduceLT, Int.reduceLE, Int.reduceEq, Int.reduceNeg, Int.reduceToNat, Nat.reduceLT, Nat.reduceLeDiff, Nat.reduceEqDiff, ↓reduceIte, true_and, and_true, not_true_eq_false, not_false_eq_true, eq_self, or_true, true_or, or_false, false_or, if_true, if_false, Int.toNat_natCast, w_ite, Nat.add_zero, reduceCtorEq, ne_eq, g0, g5, g6, hl1.1]
        rw [List.take_of_length_le (by omega)]
        refine hQ _ ⟨fun a ha hb => ?_, fun i hi => ?_, fun j hj => ?_, ?_, ?_⟩
        · rw [wr_ne hb, wr_ne ha, hf1 a ha hb]
        · rw [wr_same, up_ne hi, hl1.2 i hi]
        · rw [wr_ne (by omega), wr_same, pw_out (by omega), hT1 j (by omega)]
        · rw [wr_same, up_same, ← he2]; rfl
        · rw [wr_ne (by omega), wr_same]
          refine cat_txt hT (fun h => by rw [h] at hw2; simp at hw2) _ (fun j hj => ?_) (fun c => ?_) (fun c => ?_)
          · rw [pw_out (by omega), hT1 j hj]
          · rw [if_pos c] at he
            rw [pw_out (by omega), hb1 c, he]
            exact ⟨rfl, pw_txt _ _ _⟩
          · rw [if_neg c] at he
            rw [he]
            exact pw_txt _ _ _
      | succ j ih =>
        intro k hk
        have hb := hw4 (q.getD k 0) (by rw [List.getD_eq_getElem?_getD, List.getElem?_eq_getElem (by omega)]; exact List.getElem_mem _)
        have hρ2 : RuleAt S (wr I1 (v + 14) (pw (I1 (v + 14)) (dep * 100 + e) (q.take k))) L r ρ := by
          obtain ⟨a0, a1, a2, a3, a4, a5, a6, a7, a8, a9⟩ := hρ1
          unfold RuleAt
          rw [wr_ne (by omega), wr_ne (by omega), wr_ne (by omega)]
          exact ⟨a0, a1, a2, a3, a4, a5, a6, a7, a8, a9⟩
        have s59 := fun {d : Nat} {Q : XO → Hp → Prop} => sp_59 (d := d) (Q := Q) (G := G) (R := R) hρ2 hi h0 (k := k) (by rw [hq]; omega)
        rw [hq] at s59
        have ei : ((dep : Int) * 100 + e + k).toNat = dep * 100 + e + k := by omega
        rw [q_93_37]
        simp (disch := omega) only [q_93_0, q_93_1, q_93_2, q_93_5, q_93_7, q_93_8, q_93_10, q_93_11, q_93_13, q_93_16, q_93_19, q_93_20, q_93_21, q_93_22, q_93_24, q_93_25, q_93_26, q_93_29, q_93_30, q_93_31, q_93_32, q_93_34, q_93_35, q_93_39, q_93_41, q_93_44, q_93_46, q_93_48, q_93_49, q_93_50, q_93_53, q_93_54, q_93_57, q_93_58, q_93_61, q_93_63, q_93_65, q_93_66, q_93_67, q_93_68, q_93_70, q_93_73, q_93_74, q_93_75, q_93_78, q_93_81, q_93_82, q_93_85, q_93_86, q_93_87, q_93_88, q_93_90, q_93_91, q_93_92, q_93_93, q_93_e, va_rf_s, bz_0, bz_1, bz_ok, bb_ok, Nat.add_assoc, w_lt, w_add, w_sub, w_mul, w_div, em_def, w_eq, w_inT, ↓ilt_t, ↓ilt_f, ↓ieq_t, ↓ieq_f, ntT, w_b, w_ix, kx_v, kx_n, kl_n, kl_i, kl_r, kl_o, inA_i, inA_s, inA_b, inA_z, inA_l, inA_0, inA_4, inA_5, inA_6, inA_7, inA_8, inA_9, inA_10, al_0, al_1, al_2, al_4, al_5, al_98, bsP_2, bsP_3, wr_same, wr_wr, wr_ne, up_same, up_ne, Nat.reduceAdd, Int.reduceAdd, Int.reduceSub, Int.reduceMul, Int.reduceLT, Int.reduceLE, Int.reduceEq, Int.reduceNeg, Int.reduceToNat, Nat.reduceLT, Nat.reduceLeDiff, Nat.reduceEqDiff, ↓reduceIte, true_and, and_true, not_true_eq_false, not_false_eq_true, eq_self, or_true, true_or, or_false, false_or, if_true, if_false, Int.toNat_natCast, w_ite, Nat.add_zero, reduceCtorEq, ne_eq, g0, g5, g6, hS, s59, ei]
        have := ih (k + 1) (by omega)
        rw [← pw_snoc (by omega)] at this
        simp only [Int.natCast_add, Int.natCast_one, Nat.add_assoc] at this
        exact this
    have := lp q.length 0 (by omega)
    rw [pw_zero, wr_self] at this
    simp (disch := omega) only [q_93_0, q_93_1, q_93_2, q_93_5, q_93_7, q_93_8, q_93_10, q_93_11, q_93_13, q_93_16, q_93_19, q_93_20, q_93_21, q_93_22, q_93_24, q_93_25, q_93_26, q_93_29, q_93_30, q_93_31, q_93_32, q_93_34, q_93_35, q_93_39, q_93_41, q_93_44, q_93_46, q_93_48, q_93_49, q_93_50, q_93_53, q_93_54, q_93_57, q_93_58, q_93_61, q_93_63, q_93_65, q_93_66, q_93_67, q_93_68, q_93_70, q_93_73, q_93_74, q_93_75, q_93_78, q_93_81, q_93_82, q_93_85, q_93_86, q_93_87, q_93_88, q_93_90, q_93_91, q_93_92, q_93_93, q_93_e, va_rf_s, bz_0, bz_1, bz_ok, bb_ok, Nat.add_assoc, w_lt, w_add, w_sub, w_mul, w_div, em_def, w_eq, w_inT, ↓ilt_t, ↓ilt_f, ↓ieq_t, ↓ieq_f, ntT, w_b, w_ix, kx_v, kx_n, kl_n, kl_i, kl_r, kl_o, inA_i, inA_s, inA_b, inA_z, inA_l, inA_0, inA_4, inA_5, inA_6, inA_7, inA_8, inA_9, inA_10, al_0, al_1, al_2, al_4, al_5, al_98, bsP_2, bsP_3, wr_same, wr_wr, wr_ne, up_same, up_ne, Nat.reduceAdd, Int.reduceAdd, Int.reduceSub, Int.reduceMul, Int.reduceLT, Int.reduceLE, Int.reduceEq, Int.reduceNeg, Int.reduceToNat, Nat.reduceLT, Nat.reduceLeDiff, Nat.reduceEqDiff, ↓reduceIte, true_and, and_true, not_true_eq_false, not_false_eq_true, eq_self, or_true, true_or, or_false, false_or, if_true, if_false, Int.toNat_natCast, w_ite, Nat.add_zero, reduceCtorEq, ne_eq, g0, g6, hl1.1]
    exact this
def addS (I : MI) (v dep : Nat) (t : List Int) (H : Nat) (I' : MI) : Prop := (∀ a, a ≠ v + 14 → a ≠ v + 15 → a ≠ v + 16 → I' a = I a) ∧ (∀ i, i ≠ dep → I' (v + 15) i = I (v + 15) i ∧ I' (v + 16) i = I (v + 16) i) ∧ (∀ j, j < dep * 100 → I' (v + 14) j = I (v + 14) j) ∧ I' (v + 15) dep = w t.length ∧ I' (v + 16) dep = w H ∧ Txt (I' (v + 14)) (dep * 100) t
theorem sp_94 {v dep h hq : Nat} {n : Int} {t q : List Int} {g : Bool} (hV : VoiS S v) (n1 : 0 ≤ n) (n2 : n < 2147483648) (hd : dep < 30) (hl : I (v + 15) dep = w t.length) (ht : t.length ≤ 100) (hT : Txt (I (v + 14)) (dep * 100) t) (hh : I (v + 16) dep = w h) (h30 : h ≤ 31) (hql : I (v + 4) (sl n) = w q.length) (hq100 : q.length ≤ 100) (hqh : I (v + 6) (sl n) = w hq) (hq30 : hq ≤ 30) (hqT : Txt (I (v + 2)) (sl n * 100) q)
    (hQ0 : q ≠ [] → 100 < (cat t g q).length → ∀ I' : MI, (∀ a, a ≠ v + 16 → I' a = I a) → (∀ i, i ≠ dep → I' (v + 16) i = I (v + 16) i) → Q (.inl (some (.int (w 0)))) (mk S I' L R G))
    (hQ1 : q = [] → ∀ I' : MI, addS I v dep t (max h (hq + 1)) I' → Q (.inl (some (.int (w 1)))) (mk S I' L R G))
    (hQ : q ≠ [] → ¬ 100 < (cat t g q).length → ∀ I' : MI, addS I v dep (cat t g q) (max h (hq + 1)) I' → Q (.inl (some (.int (w 1)))) (mk S I' L R G)) :
    XC (d + 1) 94 [.ref v, .int (w n), .int (w dep), .int (bz g)] (mk S I L R G) Q := by
  obtain ⟨g0, g1, g2, g3, g4, g5, g6, g7⟩ := id hV
  obtain ⟨m0, m1, m2, m3, m4, m5⟩ := id g1
  simp only [Nat.add_assoc, Nat.reduceAdd] at m1 m2 m3 m4 m5
  have hs := sl_bd n
  have hb := slot_bd n
  have e : slot n * 100 = (sl n : Int) * 100 := by rw [sl_c]
  have eH : (if (h : Int) < 1 + hq then (1 + hq : Int) else h) = ((max h (hq + 1) : Nat) : Int) := by split <;> omega
  simp (disch := omega) only [q_94_0, q_94_1, q_94_4, q_94_5, q_94_8, q_94_10, q_94_11, q_94_14, q_94_15, q_94_16, q_94_19, q_94_20, q_94_21, q_94_22, q_94_23, q_94_26, q_94_29, q_94_31, q_94_32, q_94_33, q_94_36, q_94_37, q_94_38, q_94_41, q_94_44, q_94_46, q_94_47, q_94_49, q_94_51, q_94_54, q_94_55, q_94_56, q_94_57, q_94_59, q_94_60, q_94_64, q_94_67, q_94_68, q_94_69, q_94_70, q_94_73, q_94_76, q_94_78, q_94_80, q_94_81, q_94_82, q_94_85, q_94_86, q_94_88, q_94_89, q_94_90, q_94_93, q_94_94, q_94_95, q_94_96, q_94_98, q_94_101, q_94_102, q_94_105, q_94_106, q_94_107, q_94_108, q_94_110, q_94_111, q_94_112, q_94_113, q_94_e, va_rf_s, bz_0, bz_1, bz_ok, bb_ok, Nat.add_assoc, w_lt, w_add, w_sub, w_mul, w_div, em_def, w_eq, w_inT, ↓ilt_t, ↓ilt_f, ↓ieq_t, ↓ieq_f, ntT, w_b, w_ix, kx_v, kx_n, kl_n, kl_i, kl_r, kl_o, inA_i, inA_s, inA_b, inA_z, inA_l, inA_0, inA_4, inA_5, inA_6, inA_7, inA_8, inA_9, inA_10, al_0, al_1, al_2, al_4, al_5, al_98, bsP_2, bsP_3, wr_same, wr_wr, wr_ne, up_same, up_ne, Nat.reduceAdd, Int.reduceAdd, Int.reduceSub, Int.reduceMul, Int.reduceLT, Int.reduceLE, Int.reduceEq, Int.reduceNeg, Int.reduceToNat, Nat.reduceLT, Nat.reduceLeDiff, Nat.reduceEqDiff, ↓reduceIte, true_and, and_true, not_true_eq_false, not_false_eq_true, eq_self, or_true, true_or, or_false, false_or, if_true, if_false, Int.toNat_natCast, w_ite, Nat.add_zero, reduceCtorEq, ne_eq, sp_27, g0, m0, m1, m2, m3, m4, m5, g5, g6, g7, sl_w, hl, hh, hql, hqh, eH]
  have hI1 : ∀ a, a ≠ v + 16 → wr I (v + 16) (up (I (v + 16)) dep (w ((max h (hq + 1) : Nat) : Int))) a = I a := fun a ha => wr_ne ha
  have hI2 : ∀ i, i ≠ dep → wr I (v + 16) (up (I (v + 16)) dep (w ((max h (hq + 1) : Nat) : Int))) (v + 16) i = I (v + 16) i := fun i hi => by rw [wr_same, up_ne hi]
  have hI3 : wr I (v + 16) (up (I (v + 16)) dep (w ((max h (hq + 1) : Nat) : Int))) (v + 16) dep = w ((max h (hq + 1) : Nat) : Int) := by rw [wr_same, up_same]
  generalize wr I (v + 16) (up (I (v + 16)) dep (w ((max h (hq + 1) : Nat) : Int))) = I1 at hI1 hI2 hI3 ⊢
  by_cases c0 : q = []
  · subst c0
    simp (disch := omega) only [q_94_0, q_94_1, q_94_4, q_94_5, q_94_8, q_94_10, q_94_11, q_94_14, q_94_15, q_94_16, q_94_19, q_94_20, q_94_21, q_94_22, q_94_23, q_94_26, q_94_29, q_94_31, q_94_32, q_94_33, q_94_36, q_94_37, q_94_38, q_94_41, q_94_44, q_94_46, q_94_47, q_94_49, q_94_51, q_94_54, q_94_55, q_94_56, q_94_57, q_94_59, q_94_60, q_94_64, q_94_67, q_94_68, q_94_69, q_94_70, q_94_73, q_94_76, q_94_78, q_94_80, q_94_81, q_94_82, q_94_85, q_94_86, q_94_88, q_94_89, q_94_90, q_94_93, q_94_94, q_94_95, q_94_96, q_94_98, q_94_101, q_94_102, q_94_105, q_94_106, q_94_107, q_94_108, q_94_110, q_94_111, q_94_112, q_94_113, q_94_e, va_rf_s, bz_0, bz_1, bz_ok, bb_ok, Nat.add_assoc, w_lt, w_add, w_sub, w_mul, w_div, em_def, w_eq, w_inT, ↓ilt_t, ↓ilt_f, ↓ieq_t, ↓ieq_f, ntT, w_b, w_ix, kx_v, kx_n, kl_n, kl_i, kl_r, kl_o, inA_i, inA_s, inA_b, inA_z, inA_l, inA_0, inA_4, inA_5, inA_6, inA_7, inA_8, inA_9, inA_10, al_0, al_1, al_2, al_4, al_5, al_98, bsP_2, bsP_3, wr_same, wr_wr, wr_ne, up_same, up_ne, Nat.reduceAdd, Int.reduceAdd, Int.reduceSub, Int.reduceMul, Int.reduceLT, Int.reduceLE, Int.reduceEq, Int.reduceNeg, Int.reduceToNat, Nat.reduceLT, Nat.reduceLeDiff, Nat.reduceEqDiff, ↓reduceIte, true_and, and_true, not_true_eq_false, not_false_eq_true, eq_self, or_true, true_or, or_false, false_or, if_true, if_false, Int.toNat_natCast, w_ite, Nat.add_zero, reduceCtorEq, ne_eq, List.length_nil, Int.natCast_zero]
    refine hQ1 rfl _ ⟨fun a _ _ hc => hI1 a hc, fun i hi => ⟨by rw [hI1 _ (by omega)], hI2 i hi⟩, fun j _ => by rw [hI1 _ (by omega)], by rw [hI1 _ (by omega), hl], hI3, by rw [hI1 _ (by omega)]; exact hT⟩
  · have hq0 := ne_nil_len.mp c0
    rw [if_pos (by omega : 0 < (q.length : Int))]
    have hl1 : I1 (v + 15) dep = w t.length := by rw [hI1 _ (by omega), hl]
    simp (disch := omega) only [q_94_0, q_94_1, q_94_4, q_94_5, q_94_8, q_94_10, q_94_11, q_94_14, q_94_15, q_94_16, q_94_19, q_94_20, q_94_21, q_94_22, q_94_23, q_94_26, q_94_29, q_94_31, q_94_32, q_94_33, q_94_36, q_94_37, q_94_38, q_94_41, q_94_44, q_94_46, q_94_47, q_94_49, q_94_51, q_94_54, q_94_55, q_94_56, q_94_57, q_94_59, q_94_60, q_94_64, q_94_67, q_94_68, q_94_69, q_94_70, q_94_73, q_94_76, q_94_78, q_94_80, q_94_81, q_94_82, q_94_85, q_94_86, q_94_88, q_94_89, q_94_90, q_94_93, q_94_94, q_94_95, q_94_96, q_94_101, q_94_102, q_94_105, q_94_106, q_94_107, q_94_108, q_94_110, q_94_111, q_94_112, q_94_113, q_94_e, q_94_61, va_rf_s, bz_0, bz_1, bz_ok, bb_ok, Nat.add_assoc, w_lt, w_add, w_sub, w_mul, w_div, em_def, w_eq, w_inT, ↓ilt_t, ↓ilt_f, ↓ieq_t, ↓ieq_f, ntT, w_b, w_ix, kx_v, kx_n, kl_n, kl_i, kl_r, kl_o, inA_i, inA_s, inA_b, inA_z, inA_l, inA_0, inA_4, inA_5, inA_6, inA_7, inA_8, inA_9, inA_10, al_0, al_1, al_2, al_4, al_5, al_98, bsP_2, bsP_3, wr_same, wr_wr, wr_ne, up_same, up_ne, Nat.reduceAdd, Int.reduceAdd, Int.reduceSub, Int.reduceMul, Int.reduceLT, Int.reduceLE, Int.reduceEq, Int.reduceNeg, Int.reduceToNat, Nat.reduceLT, Nat.reduceLeDiff, Nat.reduceEqDiff, ↓reduceIte, true_and, and_true, not_true_eq_false, not_false_eq_true, eq_self, or_true, true_or, or_false, false_or, if_true, if_false, Int.toNat_natCast, w_ite, Nat.add_zero, reduceCtorEq, ne_eq, g0, sp_95 hV hd hl1 ht hq100]
    by_cases c1 : 100 < (cat t g q).length
    · rw [if_pos c1]
      exact hQ0 c0 c1 I1 hI1 hI2
    · rw [if_neg c1]
      have hQ := hQ c0 c1
      rw [cat_len] at c1
      obtain ⟨I2, e2, hI2', hf1, hle, hT1, hb1, he, he2⟩ : ∃ (I2 : MI) (e : Nat), I2 = (if t ≠ [] ∧ g = false then wr (wr I1 (v + 14) (up (I1 (v + 14)) (dep * 100 + t.length) (w 32))) (v + 15) (up (I1 (v + 15)) dep (w (t.length + 1))) else I1) ∧ (∀ a, a ≠ v + 14 → a ≠ v + 15 → I2 a = I1 a) ∧ (I2 (v + 15) dep = w e ∧ ∀ i, i ≠ dep → I2 (v + 15) i = I1 (v + 15) i) ∧ (∀ j, j < dep * 100 + t.length → I2 (v + 14) j = I1 (v + 14) j) ∧ (t ≠ [] ∧ g = false → I2 (v + 14) (dep * 100 + t.length) = w 32) ∧ e = t.length + (if t ≠ [] ∧ g = false then 1 else 0) ∧ e + q.length = (cat t g q).length := by
        refine ⟨_, _, rfl, ?_, ?_, ?_, ?_, rfl, cat_len.symm⟩
        · intro a ha hb; split
          · rw [wr_ne hb, wr_ne ha]
          · rfl
        · split
          · rw [wr_same]; exact ⟨up_same, fun i hi => up_ne hi⟩
          · exact ⟨hl1, fun _ _ => rfl⟩
        · intro j hj; split
          · rw [wr_ne (by omega), wr_same, up_ne (by omega)]
          · rfl
        · intro c; rw [if_pos c, wr_ne (by omega), wr_same, up_same]
      rw [← hI2']
      have hel : e2 ≤ 101 := by split at he <;> omega
      have hm : Txt (I2 (v + 2)) (sl n * 100) q := by rw [hf1 _ (by omega) (by omega), hI1 _ (by omega)]; exact hqT
      have s150 : ∀ {d : Nat} {Q : XO → Hp → Prop}, XC d 150 [.ref (v + 2), .int (w ((sl n : Int) * 100)), .ref (v + 14), .int (w ((dep : Int) * 100 + e2)), .int (w q.length)] (mk S I2 L R G) Q ↔ Q (.inl none) (mk S (wr I2 (v + 14) (pw (I2 (v + 14)) (dep * 100 + e2) q)) L R G) := fun {d : Nat} {Q : XO → Hp → Prop} => sp_150 (d := d) (Q := Q) (I := I2) (L := L) (R := R) (G := G) (a := v + 2) (b := v + 14) (q := dep * 100 + e2) m1 g5 (by decide) (by decide) (show sl n * 100 + q.length ≤ 115200 by omega) (by omega) (by omega) hm
      simp (disch := omega) only [q_94_0, q_94_1, q_94_4, q_94_5, q_94_8, q_94_10, q_94_11, q_94_14, q_94_15, q_94_16, q_94_19, q_94_20, q_94_21, q_94_22, q_94_23, q_94_26, q_94_29, q_94_31, q_94_32, q_94_33, q_94_36, q_94_37, q_94_38, q_94_41, q_94_44, q_94_46, q_94_47, q_94_49, q_94_51, q_94_54, q_94_55, q_94_56, q_94_57, q_94_59, q_94_60, q_94_64, q_94_67, q_94_68, q_94_69, q_94_70, q_94_73, q_94_76, q_94_78, q_94_80, q_94_81, q_94_82, q_94_85, q_94_86, q_94_88, q_94_89, q_94_90, q_94_93, q_94_94, q_94_95, q_94_96, q_94_98, q_94_101, q_94_102, q_94_105, q_94_106, q_94_107, q_94_108, q_94_110, q_94_111, q_94_112, q_94_113, q_94_e, va_rf_s, bz_0, bz_1, bz_ok, bb_ok, Nat.add_assoc, w_lt, w_add, w_sub, w_mul, w_div, em_def, w_eq, w_inT, ↓ilt_t, ↓ilt_f, ↓ieq_t, ↓ieq_f, ntT, w_b, w_ix, kx_v, kx_n, kl_n, kl_i, kl_r, kl_o, inA_i, inA_s, inA_b, inA_z, inA_l, inA_0, inA_4, inA_5, inA_6, inA_7, inA_8, inA_9, inA_10, al_0, al_1, al_2, al_4, al_5, al_98, bsP_2, bsP_3, wr_same, wr_wr, wr_ne, up_same, up_ne, Nat.reduceAdd, Int.reduceAdd, Int.reduceSub, Int.reduceMul, Int.reduceLT, Int.reduceLE, Int.reduceEq, Int.reduceNeg, Int.reduceToNat, Nat.reduceLT, Nat.reduceLeDiff, Nat.reduceEqDiff, ↓reduceIte, true_and, and_true, not_true_eq_false, not_false_eq_true, eq_self, or_true, true_or, or_false, false_or, if_true, if_false, Int.toNat_natCast, w_ite, Nat.add_zero, reduceCtorEq, ne_eq, g0, m0, g6, sl_w, hle.1, e, s150]
      refine hQ _ ⟨fun a ha hb hc => ?_, fun i hi => ⟨?_, ?_⟩, fun j hj => ?_, ?_, ?_, ?_⟩
      · rw [wr_ne hb, wr_ne ha, hf1 a ha hb, hI1 a hc]
      · rw [wr_same, up_ne hi, hle.2 i hi, hI1 _ (by omega)]
      · rw [wr_ne (by omega), wr_ne (by omega), hf1 _ (by omega) (by omega), hI2 i hi]
      · rw [wr_ne (by omega), wr_same, pw_out (by omega), hT1 j (by omega), hI1 _ (by omega)]
      · rw [wr_same, up_same, ← he2]; rfl
      · rw [wr_ne (by omega), wr_ne (by omega), hf1 _ (by omega) (by omega), hI3]
      · rw [wr_ne (by omega), wr_same]
        refine cat_txt hT c0 _ (fun j hj => ?_) (fun c => ?_) (fun c => ?_)
        · rw [pw_out (by omega), hT1 j hj, hI1 _ (by omega)]
        · rw [if_pos c] at he
          rw [pw_out (by omega), hb1 c, he]
          exact ⟨rfl, pw_txt _ _ _⟩
        · rw [if_neg c] at he
          rw [he]
          exact pw_txt _ _ _
end

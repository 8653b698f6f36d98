/-! the law's loop: one call of each kind -/
def grow (s s' : St) : Prop := s'.2.2.2.2.1 ≤ s.2.2.2.2.1 + 1 ∧ s'.2.2.2.2.2 ≤ s.2.2.2.2.2 + 1
theorem lg_self {x : Int64} : lg_cmp x x = w 0 := by
  unfold lg_cmp
  rw [if_neg (show ¬ x > x from Int64.lt_irrefl), if_pos rfl]
  rfl
theorem tc_b {two : Bool} {E : Nat} : tcode two E = 1 ∨ tcode two E = 2 := by
  unfold tcode
  split
  · exact Or.inl rfl
  · split
    · exact Or.inr rfl
    · exact Or.inl rfl
theorem rText_g {s : St} {n z : Int} : grow s (rText s n z).2 := by
  unfold rText
  repeat' split
  all_goals first | exact ⟨Nat.le_succ _, Nat.le_succ _⟩ | exact ⟨Nat.le_refl _, Nat.le_succ _⟩ | exact ⟨Nat.le_succ _, Nat.le_refl _⟩
theorem rLimit_g {s : St} {v : Int} : grow s (rLimit s v).2 := by
  unfold rLimit
  repeat' split
  all_goals first | exact ⟨Nat.le_succ _, Nat.le_succ _⟩ | exact ⟨Nat.le_refl _, Nat.le_succ _⟩ | exact ⟨Nat.le_succ _, Nat.le_refl _⟩
theorem rTold_g {s : St} {x : Int} : grow s (rTold s x).2 := by
  unfold rTold
  repeat' split
  all_goals first | exact ⟨Nat.le_succ _, Nat.le_succ _⟩ | exact ⟨Nat.le_refl _, Nat.le_succ _⟩ | exact ⟨Nat.le_succ _, Nat.le_refl _⟩
theorem rDrop_g {s : St} {l q : Int} : grow s (rDrop s l q).2 := by
  unfold rDrop
  repeat' split
  all_goals first | exact ⟨Nat.le_succ _, Nat.le_succ _⟩ | exact ⟨Nat.le_refl _, Nat.le_succ _⟩ | exact ⟨Nat.le_succ _, Nat.le_refl _⟩
theorem rHeard_g {s : St} {l n : Int} : grow s (rHeard s l n).2 := by
  unfold rHeard
  repeat' split
  all_goals first | exact ⟨Nat.le_succ _, Nat.le_succ _⟩ | exact ⟨Nat.le_refl _, Nat.le_succ _⟩ | exact ⟨Nat.le_succ _, Nat.le_refl _⟩
theorem rRise_g {s : St} {l q : Int} : grow s (rRise s l q).2 := by
  unfold rRise
  repeat' split
  all_goals first | exact ⟨Nat.le_succ _, Nat.le_succ _⟩ | exact ⟨Nat.le_refl _, Nat.le_succ _⟩ | exact ⟨Nat.le_succ _, Nat.le_refl _⟩
theorem rRule_g {s : St} {l q x : Int} : grow s (rRule s l q x).2 := by
  unfold rRule
  repeat' split
  all_goals first | exact ⟨Nat.le_succ _, Nat.le_succ _⟩ | exact ⟨Nat.le_refl _, Nat.le_succ _⟩ | exact ⟨Nat.le_succ _, Nat.le_refl _⟩
theorem rItem_g {s : St} {l q i x : Int} : grow s (rItem s l q i x).2 := by
  unfold rItem
  repeat' split
  all_goals first | exact ⟨Nat.le_succ _, Nat.le_succ _⟩ | exact ⟨Nat.le_refl _, Nat.le_succ _⟩ | exact ⟨Nat.le_succ _, Nat.le_refl _⟩
theorem rFits_g {s : St} {l n : Int} : grow s (rFits s l n).2 := by
  unfold rFits
  repeat' split
  all_goals first | exact ⟨Nat.le_succ _, Nat.le_succ _⟩ | exact ⟨Nat.le_refl _, Nat.le_succ _⟩ | exact ⟨Nat.le_succ _, Nat.le_refl _⟩
theorem rCause_g {s : St} {l n q x : Int} : grow s (rCause s l n q x).2 := by
  unfold rCause
  repeat' split
  all_goals first | exact ⟨Nat.le_succ _, Nat.le_succ _⟩ | exact ⟨Nat.le_refl _, Nat.le_succ _⟩ | exact ⟨Nat.le_succ _, Nat.le_refl _⟩
theorem rRead_g {s : St} {l n x : Int} : grow s (rRead s l n x).2 := by
  unfold rRead
  repeat' split
  all_goals first | exact ⟨Nat.le_succ _, Nat.le_succ _⟩ | exact ⟨Nat.le_refl _, Nat.le_succ _⟩ | exact ⟨Nat.le_succ _, Nat.le_refl _⟩
theorem rWays_g {s : St} {l n x : Int} : grow s (rWays s l n x).2 := by
  unfold rWays
  repeat' split
  all_goals first | exact ⟨Nat.le_succ _, Nat.le_succ _⟩ | exact ⟨Nat.le_refl _, Nat.le_succ _⟩ | exact ⟨Nat.le_succ _, Nat.le_refl _⟩
theorem rWay_g {s : St} {l n q x : Int} : grow s (rWay s l n q x).2 := by
  unfold rWay
  repeat' split
  all_goals first | exact ⟨Nat.le_succ _, Nat.le_succ _⟩ | exact ⟨Nat.le_refl _, Nat.le_succ _⟩ | exact ⟨Nat.le_succ _, Nat.le_refl _⟩
theorem rStr_g {s : St} {l n : Int} : grow s (rStr s l n).2 := by
  unfold rStr
  repeat' split
  all_goals first | exact ⟨Nat.le_succ _, Nat.le_succ _⟩ | exact ⟨Nat.le_refl _, Nat.le_succ _⟩ | exact ⟨Nat.le_succ _, Nat.le_refl _⟩
theorem rFeed_g {s : St} {x1 x2 x3 x4 x5 : Int} : grow s (rFeed s x1 x2 x3 x4 x5).2 := by
  unfold rFeed
  repeat' split
  all_goals first | exact ⟨Nat.le_succ _, Nat.le_succ _⟩ | exact ⟨Nat.le_refl _, Nat.le_succ _⟩ | exact ⟨Nat.le_succ _, Nat.le_refl _⟩
theorem rStatus_g {s : St} {x : Int} : grow s (rStatus s x).2 := by
  unfold rStatus
  repeat' split
  all_goals first | exact ⟨Nat.le_succ _, Nat.le_succ _⟩ | exact ⟨Nat.le_refl _, Nat.le_succ _⟩ | exact ⟨Nat.le_succ _, Nat.le_refl _⟩
theorem rUndo_g {s : St} : grow s (rUndo s).2 := by
  unfold rUndo
  repeat' split
  all_goals first | exact ⟨Nat.le_succ _, Nat.le_succ _⟩ | exact ⟨Nat.le_refl _, Nat.le_succ _⟩ | exact ⟨Nat.le_succ _, Nat.le_refl _⟩
theorem rLg_g {s : St} {l : Int} {f : List Rl → Int} : grow s (rLg s l f).2 := by
  unfold rLg
  repeat' split
  all_goals first | exact ⟨Nat.le_succ _, Nat.le_succ _⟩ | exact ⟨Nat.le_refl _, Nat.le_succ _⟩ | exact ⟨Nat.le_succ _, Nat.le_refl _⟩
theorem rLx_g {s : St} {l x mx : Int} {f : List Rl → Int} : grow s (rLx s l x mx f).2 := by
  unfold rLx
  repeat' split
  all_goals first | exact ⟨Nat.le_succ _, Nat.le_succ _⟩ | exact ⟨Nat.le_refl _, Nat.le_succ _⟩ | exact ⟨Nat.le_succ _, Nat.le_refl _⟩
section
variable {d : Nat} {Q : XO → Hp → Prop} {S : SH} {I : MI} {L : ML} {R : MR} {G : MG} {A : Hp}
variable {c b n i : Nat} {s : St} {x : Nat → Int} {o5 o6 o7 : Option Value}
/-- the round's end -/
def KN (S : SH) (I : MI) (G : MG) (d c b i : Nat) (Q : XO → Hp → Prop) (s : St) : Prop := ∀ (S' : SH) (I' : MI) (L' : ML) (R' : MR) (G' : MG) (s' : St) (o5 o6 o7 : Option Value), LB S' I' L' R' G' c s' s' → LFr S I G c S' I' G' 1 → grow s s' → XX (d + 80) 268 2288 [some (.ref b), some (.ref c), some (.ref (c + 121)), some (.ref (c + 6799)), some (.int (w i)), o5, o6, o7] [] (mk S' I' L' R' G') Q
def Scr (S : SH) (I : MI) (b n : Nat) (x : Nat → Int) : Prop := S b = some (.inl (98, n)) ∧ ∀ j, j < n → I b j = w (x j) ∧ B32 (x j)
theorem kd_1 (h : LB S I L R G c s s) (hf : few s) (hbc : b < c) (hb : Scr S I b n x) (hi : i + 6 ≤ n) (hn : n ≤ 3072) (hQ : KN S I G d c b i Q s) : XX (d + 80) 268 261 [some (.ref b), some (.ref c), some (.ref (c + 121)), some (.ref (c + 6799)), some (.int (w i)), o5, o6, o7] [] (mk S I L R G) Q := by
  have hc := h.1.1.1
  have hm := h.2.1.1.1
  have hb0 := hb.1
  have e1 : ((i : Int) + 1).toNat = i + 1 := by omega
  obtain ⟨v1, b1⟩ := hb.2 (i + 1) (by omega)
  simp (disch := omega) only [q_268_261, q_268_262, q_268_263, q_268_265, q_268_266, q_268_267, q_268_268, q_268_269, q_268_272, q_268_274, q_268_275, q_268_276, q_268_278, q_268_279, q_268_280, q_268_281, q_268_284, q_268_286, q_268_287, q_268_290, q_268_292, q_268_295, q_268_296, q_268_297, q_268_299, q_268_302, q_268_303, q_268_304, q_268_305, q_268_307, q_268_308, q_268_309, q_268_312, q_268_313, q_268_314, va_rf_s, bz_0, bz_1, bz_ok, bb_ok, Nat.add_assoc, w_lt, w_add, w_sub, w_mul, w_div, em_def, w_eq, w_inT, ↓ilt_t, ↓ilt_f, ↓ieq_t, ↓ieq_f, ntT, w_b, w_ix, kx_v, kx_n, kl_n, kl_i, kl_r, kl_o, inA_i, inA_s, inA_b, inA_z, inA_l, inA_0, inA_4, inA_5, inA_6, inA_7, inA_8, inA_9, inA_10, al_0, al_1, al_2, al_4, al_5, al_98, bsP_2, bsP_3, wr_same, wr_wr, wr_ne, up_same, up_ne, Nat.reduceAdd, Int.reduceAdd, Int.reduceSub, Int.reduceMul, Int.reduceLT, Int.reduceLE, Int.reduceEq, Int.reduceNeg, Int.reduceToNat, Nat.reduceLT, Nat.reduceLeDiff, Nat.reduceEqDiff, ↓reduceIte, true_and, and_true, not_true_eq_false, not_false_eq_true, eq_self, or_true, true_or, or_false, false_or, if_true, if_false, Int.toNat_natCast, w_ite, Nat.add_zero, reduceCtorEq, ne_eq, hc, hm, hb0, e1, v1]
  refine sp_240 h hf b1 (fun S' I' L' R' G' z h' hL' hz => ?_)
  have hb1 : S' b = some (.inl (98, n)) := ((hL'.1 b hbc).1).trans hb.1
  have hI1 : I' b = I b := (hL'.1 b hbc).2
  have hm1 : S' (c + 121) = some (.inr 12) := h'.2.1.1.1
  have ho1 : S' (c + 6799) = some (.inl (1, 1)) := h'.2.2.1
  simp (disch := omega) only [q_268_261, q_268_262, q_268_263, q_268_265, q_268_266, q_268_267, q_268_268, q_268_269, q_268_272, q_268_274, q_268_275, q_268_276, q_268_278, q_268_279, q_268_280, q_268_281, q_268_284, q_268_286, q_268_287, q_268_290, q_268_292, q_268_295, q_268_296, q_268_297, q_268_299, q_268_302, q_268_303, q_268_304, q_268_305, q_268_307, q_268_308, q_268_309, q_268_312, q_268_313, q_268_314, va_rf_s, bz_0, bz_1, bz_ok, bb_ok, Nat.add_assoc, w_lt, w_add, w_sub, w_mul, w_div, em_def, w_eq, w_inT, ↓ilt_t, ↓ilt_f, ↓ieq_t, ↓ieq_f, ntT, w_b, w_ix, kx_v, kx_n, kl_n, kl_i, kl_r, kl_o, inA_i, inA_s, inA_b, inA_z, inA_l, inA_0, inA_4, inA_5, inA_6, inA_7, inA_8, inA_9, inA_10, al_0, al_1, al_2, al_4, al_5, al_98, bsP_2, bsP_3, wr_same, wr_wr, wr_ne, up_same, up_ne, Nat.reduceAdd, Int.reduceAdd, Int.reduceSub, Int.reduceMul, Int.reduceLT, Int.reduceLE, Int.reduceEq, Int.reduceNeg, Int.reduceToNat, Nat.reduceLT, Nat.reduceLeDiff, Nat.reduceEqDiff, ↓reduceIte, true_and, and_true, not_true_eq_false, not_false_eq_true, eq_self, or_true, true_or, or_false, false_or, if_true, if_false, Int.toNat_natCast, w_ite, Nat.add_zero, reduceCtorEq, ne_eq, hm1, hb1, hI1, e1, v1]
  refine sp_176 h'.2.1 hf (h'.2.2.2.2.up (by omega)) b1 (fun I2 L2 o hM hF hA => ?_)
  obtain ⟨h2, hL2⟩ := h'.mdl hM hF
  have hout : L2 (c + 6799) = L' (c + 6799) := (hF _ (Or.inr (by omega))).2
  have s153 := fun {d : Nat} {Q : XO → Hp → Prop} => sp_153 (d := d) (Q := Q) (I := I2) (L := L2) (R := R') (G := G') hm1
  have hQ' := hQ S' I2 L2 R' G' _ (some (.int (w z))) (some (.int o)) o7 h2 (hL'.trans hL2) rText_g
  unfold MA at hA
  cases hr : (rText s (x (i + 1)) 0).1 with
  | inl v =>
    rw [hr] at hz hA
    obtain ⟨rfl, ez⟩ := hz
    obtain ⟨rfl, e0⟩ := hA
    rw [← hout] at ez
    simp (disch := omega) only [q_268_261, q_268_262, q_268_263, q_268_265, q_268_266, q_268_267, q_268_268, q_268_269, q_268_272, q_268_274, q_268_275, q_268_276, q_268_278, q_268_279, q_268_280, q_268_281, q_268_284, q_268_286, q_268_287, q_268_290, q_268_292, q_268_295, q_268_296, q_268_297, q_268_299, q_268_302, q_268_303, q_268_304, q_268_305, q_268_307, q_268_308, q_268_309, q_268_312, q_268_313, q_268_314, va_rf_s, bz_0, bz_1, bz_ok, bb_ok, Nat.add_assoc, w_lt, w_add, w_sub, w_mul, w_div, em_def, w_eq, w_inT, ↓ilt_t, ↓ilt_f, ↓ieq_t, ↓ieq_f, ntT, w_b, w_ix, kx_v, kx_n, kl_n, kl_i, kl_r, kl_o, inA_i, inA_s, inA_b, inA_z, inA_l, inA_0, inA_4, inA_5, inA_6, inA_7, inA_8, inA_9, inA_10, al_0, al_1, al_2, al_4, al_5, al_98, bsP_2, bsP_3, wr_same, wr_wr, wr_ne, up_same, up_ne, Nat.reduceAdd, Int.reduceAdd, Int.reduceSub, Int.reduceMul, Int.reduceLT, Int.reduceLE, Int.reduceEq, Int.reduceNeg, Int.reduceToNat, Nat.reduceLT, Nat.reduceLeDiff, Nat.reduceEqDiff, ↓reduceIte, true_and, and_true, not_true_eq_false, not_false_eq_true, eq_self, or_true, true_or, or_false, false_or, if_true, if_false, Int.toNat_natCast, w_ite, Nat.add_zero, reduceCtorEq, ne_eq, hm1, ho1, s153, e0, ez, lg_self]
    exact hQ'
  | inr E =>
    rw [hr] at hz hA
    have e0 := hA.2
    have tb := tc_b (two := false) (E := E)
    dsimp only at hz
    rw [← hz] at e0 tb
    simp (disch := omega) only [q_268_261, q_268_262, q_268_263, q_268_265, q_268_266, q_268_267, q_268_268, q_268_269, q_268_272, q_268_274, q_268_275, q_268_276, q_268_278, q_268_279, q_268_280, q_268_281, q_268_284, q_268_286, q_268_287, q_268_290, q_268_292, q_268_295, q_268_296, q_268_297, q_268_299, q_268_302, q_268_303, q_268_304, q_268_305, q_268_307, q_268_308, q_268_309, q_268_312, q_268_313, q_268_314, va_rf_s, bz_0, bz_1, bz_ok, bb_ok, Nat.add_assoc, w_lt, w_add, w_sub, w_mul, w_div, em_def, w_eq, w_inT, ↓ilt_t, ↓ilt_f, ↓ieq_t, ↓ieq_f, ntT, w_b, w_ix, kx_v, kx_n, kl_n, kl_i, kl_r, kl_o, inA_i, inA_s, inA_b, inA_z, inA_l, inA_0, inA_4, inA_5, inA_6, inA_7, inA_8, inA_9, inA_10, al_0, al_1, al_2, al_4, al_5, al_98, bsP_2, bsP_3, wr_same, wr_wr, wr_ne, up_same, up_ne, Nat.reduceAdd, Int.reduceAdd, Int.reduceSub, Int.reduceMul, Int.reduceLT, Int.reduceLE, Int.reduceEq, Int.reduceNeg, Int.reduceToNat, Nat.reduceLT, Nat.reduceLeDiff, Nat.reduceEqDiff, ↓reduceIte, true_and, and_true, not_true_eq_false, not_false_eq_true, eq_self, or_true, true_or, or_false, false_or, if_true, if_false, Int.toNat_natCast, w_ite, Nat.add_zero, reduceCtorEq, ne_eq, hm1, s153, e0]
    exact hQ'
theorem kd_3 (h : LB S I L R G c s s) (hf : few s) (hbc : b < c) (hb : Scr S I b n x) (hi : i + 6 ≤ n) (hn : n ≤ 3072) (hQ : KN S I G d c b i Q s) : XX (d + 80) 268 330 [some (.ref b), some (.ref c), some (.ref (c + 121)), some (.ref (c + 6799)), some (.int (w i)), o5, o6, o7] [] (mk S I L R G) Q := by
  have hc := h.1.1.1
  have hm := h.2.1.1.1
  have hb0 := hb.1
  have e1 : ((i : Int) + 1).toNat = i + 1 := by omega
  obtain ⟨v1, b1⟩ := hb.2 (i + 1) (by omega)
  simp (disch := omega) only [q_268_330, q_268_331, q_268_332, q_268_334, q_268_335, q_268_336, q_268_337, q_268_338, q_268_341, q_268_343, q_268_344, q_268_345, q_268_347, q_268_348, q_268_349, q_268_350, q_268_353, q_268_355, q_268_356, q_268_359, q_268_361, q_268_364, q_268_365, q_268_366, q_268_368, q_268_371, q_268_372, q_268_373, q_268_374, q_268_376, q_268_377, q_268_378, q_268_381, q_268_382, q_268_383, va_rf_s, bz_0, bz_1, bz_ok, bb_ok, Nat.add_assoc, w_lt, w_add, w_sub, w_mul, w_div, em_def, w_eq, w_inT, ↓ilt_t, ↓ilt_f, ↓ieq_t, ↓ieq_f, ntT, w_b, w_ix, kx_v, kx_n, kl_n, kl_i, kl_r, kl_o, inA_i, inA_s, inA_b, inA_z, inA_l, inA_0, inA_4, inA_5, inA_6, inA_7, inA_8, inA_9, inA_10, al_0, al_1, al_2, al_4, al_5, al_98, bsP_2, bsP_3, wr_same, wr_wr, wr_ne, up_same, up_ne, Nat.reduceAdd, Int.reduceAdd, Int.reduceSub, Int.reduceMul, Int.reduceLT, Int.reduceLE, Int.reduceEq, Int.reduceNeg, Int.reduceToNat, Nat.reduceLT, Nat.reduceLeDiff, Nat.reduceEqDiff, ↓reduceIte, true_and, and_true, not_true_eq_false, not_false_eq_true, eq_self, or_true, true_or, or_false, false_or, if_true, if_false, Int.toNat_natCast, w_ite, Nat.add_zero, reduceCtorEq, ne_eq, hc, hm, hb0, e1, v1]
  refine sp_241 h hf b1 (fun S' I' L' R' G' z h' hL' hz => ?_)
  have hb1 : S' b = some (.inl (98, n)) := ((hL'.1 b hbc).1).trans hb.1
  have hI1 : I' b = I b := (hL'.1 b hbc).2
  have hm1 : S' (c + 121) = some (.inr 12) := h'.2.1.1.1
  have ho1 : S' (c + 6799) = some (.inl (1, 1)) := h'.2.2.1
  simp (disch := omega) only [q_268_330, q_268_331, q_268_332, q_268_334, q_268_335, q_268_336, q_268_337, q_268_338, q_268_341, q_268_343, q_268_344, q_268_345, q_268_347, q_268_348, q_268_349, q_268_350, q_268_353, q_268_355, q_268_356, q_268_359, q_268_361, q_268_364, q_268_365, q_268_366, q_268_368, q_268_371, q_268_372, q_268_373, q_268_374, q_268_376, q_268_377, q_268_378, q_268_381, q_268_382, q_268_383, va_rf_s, bz_0, bz_1, bz_ok, bb_ok, Nat.add_assoc, w_lt, w_add, w_sub, w_mul, w_div, em_def, w_eq, w_inT, ↓ilt_t, ↓ilt_f, ↓ieq_t, ↓ieq_f, ntT, w_b, w_ix, kx_v, kx_n, kl_n, kl_i, kl_r, kl_o, inA_i, inA_s, inA_b, inA_z, inA_l, inA_0, inA_4, inA_5, inA_6, inA_7, inA_8, inA_9, inA_10, al_0, al_1, al_2, al_4, al_5, al_98, bsP_2, bsP_3, wr_same, wr_wr, wr_ne, up_same, up_ne, Nat.reduceAdd, Int.reduceAdd, Int.reduceSub, Int.reduceMul, Int.reduceLT, Int.reduceLE, Int.reduceEq, Int.reduceNeg, Int.reduceToNat, Nat.reduceLT, Nat.reduceLeDiff, Nat.reduceEqDiff, ↓reduceIte, true_and, and_true, not_true_eq_false, not_false_eq_true, eq_self, or_true, true_or, or_false, false_or, if_true, if_false, Int.toNat_natCast, w_ite, Nat.add_zero, reduceCtorEq, ne_eq, hm1, hb1, hI1, e1, v1]
  refine sp_177 h'.2.1 hf (h'.2.2.2.2.up (by omega)) b1 (fun I2 L2 o hM hF hA => ?_)
  obtain ⟨h2, hL2⟩ := h'.mdl hM hF
  have hout : L2 (c + 6799) = L' (c + 6799) := (hF _ (Or.inr (by omega))).2
  have s153 := fun {d : Nat} {Q : XO → Hp → Prop} => sp_153 (d := d) (Q := Q) (I := I2) (L := L2) (R := R') (G := G') hm1
  have hQ' := hQ S' I2 L2 R' G' _ (some (.int (w z))) (some (.int o)) o7 h2 (hL'.trans hL2) rText_g
  unfold MA at hA
  cases hr : (rText s (x (i + 1)) 1).1 with
  | inl v =>
    rw [hr] at hz hA
    obtain ⟨rfl, ez⟩ := hz
    obtain ⟨rfl, e0⟩ := hA
    rw [← hout] at ez
    simp (disch := omega) only [q_268_330, q_268_331, q_268_332, q_268_334, q_268_335, q_268_336, q_268_337, q_268_338, q_268_341, q_268_343, q_268_344, q_268_345, q_268_347, q_268_348, q_268_349, q_268_350, q_268_353, q_268_355, q_268_356, q_268_359, q_268_361, q_268_364, q_268_365, q_268_366, q_268_368, q_268_371, q_268_372, q_268_373, q_268_374, q_268_376, q_268_377, q_268_378, q_268_381, q_268_382, q_268_383, va_rf_s, bz_0, bz_1, bz_ok, bb_ok, Nat.add_assoc, w_lt, w_add, w_sub, w_mul, w_div, em_def, w_eq, w_inT, ↓ilt_t, ↓ilt_f, ↓ieq_t, ↓ieq_f, ntT, w_b, w_ix, kx_v, kx_n, kl_n, kl_i, kl_r, kl_o, inA_i, inA_s, inA_b, inA_z, inA_l, inA_0, inA_4, inA_5, inA_6, inA_7, inA_8, inA_9, inA_10, al_0, al_1, al_2, al_4, al_5, al_98, bsP_2, bsP_3, wr_same, wr_wr, wr_ne, up_same, up_ne, Nat.reduceAdd, Int.reduceAdd, Int.reduceSub, Int.reduceMul, Int.reduceLT, Int.reduceLE, Int.reduceEq, Int.reduceNeg, Int.reduceToNat, Nat.reduceLT, Nat.reduceLeDiff, Nat.reduceEqDiff, ↓reduceIte, true_and, and_true, not_true_eq_false, not_false_eq_true, eq_self, or_true, true_or, or_false, false_or, if_true, if_false, Int.toNat_natCast, w_ite, Nat.add_zero, reduceCtorEq, ne_eq, hm1, ho1, s153, e0, ez, lg_self]
    exact hQ'
  | inr E =>
    rw [hr] at hz hA
    have e0 := hA.2
    have tb := tc_b (two := false) (E := E)
    dsimp only at hz
    rw [← hz] at e0 tb
    simp (disch := omega) only [q_268_330, q_268_331, q_268_332, q_268_334, q_268_335, q_268_336, q_268_337, q_268_338, q_268_341, q_268_343, q_268_344, q_268_345, q_268_347, q_268_348, q_268_349, q_268_350, q_268_353, q_268_355, q_268_356, q_268_359, q_268_361, q_268_364, q_268_365, q_268_366, q_268_368, q_268_371, q_268_372, q_268_373, q_268_374, q_268_376, q_268_377, q_268_378, q_268_381, q_268_382, q_268_383, va_rf_s, bz_0, bz_1, bz_ok, bb_ok, Nat.add_assoc, w_lt, w_add, w_sub, w_mul, w_div, em_def, w_eq, w_inT, ↓ilt_t, ↓ilt_f, ↓ieq_t, ↓ieq_f, ntT, w_b, w_ix, kx_v, kx_n, kl_n, kl_i, kl_r, kl_o, inA_i, inA_s, inA_b, inA_z, inA_l, inA_0, inA_4, inA_5, inA_6, inA_7, inA_8, inA_9, inA_10, al_0, al_1, al_2, al_4, al_5, al_98, bsP_2, bsP_3, wr_same, wr_wr, wr_ne, up_same, up_ne, Nat.reduceAdd, Int.reduceAdd, Int.reduceSub, Int.reduceMul, Int.reduceLT, Int.reduceLE, Int.reduceEq, Int.reduceNeg, Int.reduceToNat, Nat.reduceLT, Nat.reduceLeDiff, Nat.reduceEqDiff, ↓reduceIte, true_and, and_true, not_true_eq_false, not_false_eq_true, eq_self, or_true, true_or, or_false, false_or, if_true, if_false, Int.toNat_natCast, w_ite, Nat.add_zero, reduceCtorEq, ne_eq, hm1, s153, e0]
    exact hQ'
theorem kd_4 (h : LB S I L R G c s s) (hf : few s) (hbc : b < c) (hb : Scr S I b n x) (hi : i + 6 ≤ n) (hn : n ≤ 3072) (hQ : KN S I G d c b i Q s) : XX (d + 80) 268 386 [some (.ref b), some (.ref c), some (.ref (c + 121)), some (.ref (c + 6799)), some (.int (w i)), o5, o6, o7] [] (mk S I L R G) Q := by
  have hc := h.1.1.1
  have hm := h.2.1.1.1
  have hb0 := hb.1
  have e1 : ((i : Int) + 1).toNat = i + 1 := by omega
  obtain ⟨v1, b1⟩ := hb.2 (i + 1) (by omega)
  simp (disch := omega) only [q_268_386, q_268_387, q_268_388, q_268_390, q_268_391, q_268_392, q_268_393, q_268_394, q_268_397, q_268_399, q_268_400, q_268_401, q_268_403, q_268_404, q_268_405, q_268_406, q_268_409, q_268_411, q_268_412, q_268_415, q_268_417, q_268_420, q_268_421, q_268_422, q_268_424, q_268_427, q_268_428, q_268_429, q_268_430, q_268_432, q_268_433, q_268_434, q_268_437, q_268_438, q_268_439, va_rf_s, bz_0, bz_1, bz_ok, bb_ok, Nat.add_assoc, w_lt, w_add, w_sub, w_mul, w_div, em_def, w_eq, w_inT, ↓ilt_t, ↓ilt_f, ↓ieq_t, ↓ieq_f, ntT, w_b, w_ix, kx_v, kx_n, kl_n, kl_i, kl_r, kl_o, inA_i, inA_s, inA_b, inA_z, inA_l, inA_0, inA_4, inA_5, inA_6, inA_7, inA_8, inA_9, inA_10, al_0, al_1, al_2, al_4, al_5, al_98, bsP_2, bsP_3, wr_same, wr_wr, wr_ne, up_same, up_ne, Nat.reduceAdd, Int.reduceAdd, Int.reduceSub, Int.reduceMul, Int.reduceLT, Int.reduceLE, Int.reduceEq, Int.reduceNeg, Int.reduceToNat, Nat.reduceLT, Nat.reduceLeDiff, Nat.reduceEqDiff, ↓reduceIte, true_and, and_true, not_true_eq_false, not_false_eq_true, eq_self, or_true, true_or, or_false, false_or, if_true, if_false, Int.toNat_natCast, w_ite, Nat.add_zero, reduceCtorEq, ne_eq, hc, hm, hb0, e1, v1]
  refine sp_242 h hf b1 (fun S' I' L' R' G' z h' hL' hz => ?_)
  have hb1 : S' b = some (.inl (98, n)) := ((hL'.1 b hbc).1).trans hb.1
  have hI1 : I' b = I b := (hL'.1 b hbc).2
  have hm1 : S' (c + 121) = some (.inr 12) := h'.2.1.1.1
  have ho1 : S' (c + 6799) = some (.inl (1, 1)) := h'.2.2.1
  simp (disch := omega) only [q_268_386, q_268_387, q_268_388, q_268_390, q_268_391, q_268_392, q_268_393, q_268_394, q_268_397, q_268_399, q_268_400, q_268_401, q_268_403, q_268_404, q_268_405, q_268_406, q_268_409, q_268_411, q_268_412, q_268_415, q_268_417, q_268_420, q_268_421, q_268_422, q_268_424, q_268_427, q_268_428, q_268_429, q_268_430, q_268_432, q_268_433, q_268_434, q_268_437, q_268_438, q_268_439, va_rf_s, bz_0, bz_1, bz_ok, bb_ok, Nat.add_assoc, w_lt, w_add, w_sub, w_mul, w_div, em_def, w_eq, w_inT, ↓ilt_t, ↓ilt_f, ↓ieq_t, ↓ieq_f, ntT, w_b, w_ix, kx_v, kx_n, kl_n, kl_i, kl_r, kl_o, inA_i, inA_s, inA_b, inA_z, inA_l, inA_0, inA_4, inA_5, inA_6, inA_7, inA_8, inA_9, inA_10, al_0, al_1, al_2, al_4, al_5, al_98, bsP_2, bsP_3, wr_same, wr_wr, wr_ne, up_same, up_ne, Nat.reduceAdd, Int.reduceAdd, Int.reduceSub, Int.reduceMul, Int.reduceLT, Int.reduceLE, Int.reduceEq, Int.reduceNeg, Int.reduceToNat, Nat.reduceLT, Nat.reduceLeDiff, Nat.reduceEqDiff, ↓reduceIte, true_and, and_true, not_true_eq_false, not_false_eq_true, eq_self, or_true, true_or, or_false, false_or, if_true, if_false, Int.toNat_natCast, w_ite, Nat.add_zero, reduceCtorEq, ne_eq, hm1, hb1, hI1, e1, v1]
  refine sp_181 h'.2.1 hf b1 (fun I2 L2 o hM hF hA => ?_)
  obtain ⟨h2, hL2⟩ := h'.mdl hM hF
  have hout : L2 (c + 6799) = L' (c + 6799) := (hF _ (Or.inr (by omega))).2
  have s153 := fun {d : Nat} {Q : XO → Hp → Prop} => sp_153 (d := d) (Q := Q) (I := I2) (L := L2) (R := R') (G := G') hm1
  have hQ' := hQ S' I2 L2 R' G' _ (some (.int (w z))) (some (.int o)) o7 h2 (hL'.trans hL2) rLimit_g
  unfold MA at hA
  cases hr : (rLimit s (x (i + 1))).1 with
  | inl v =>
    rw [hr] at hz hA
    obtain ⟨rfl, ez⟩ := hz
    obtain ⟨rfl, e0⟩ := hA
    rw [← hout] at ez
    simp (disch := omega) only [q_268_386, q_268_387, q_268_388, q_268_390, q_268_391, q_268_392, q_268_393, q_268_394, q_268_397, q_268_399, q_268_400, q_268_401, q_268_403, q_268_404, q_268_405, q_268_406, q_268_409, q_268_411, q_268_412, q_268_415, q_268_417, q_268_420, q_268_421, q_268_422, q_268_424, q_268_427, q_268_428, q_268_429, q_268_430, q_268_432, q_268_433, q_268_434, q_268_437, q_268_438, q_268_439, va_rf_s, bz_0, bz_1, bz_ok, bb_ok, Nat.add_assoc, w_lt, w_add, w_sub, w_mul, w_div, em_def, w_eq, w_inT, ↓ilt_t, ↓ilt_f, ↓ieq_t, ↓ieq_f, ntT, w_b, w_ix, kx_v, kx_n, kl_n, kl_i, kl_r, kl_o, inA_i, inA_s, inA_b, inA_z, inA_l, inA_0, inA_4, inA_5, inA_6, inA_7, inA_8, inA_9, inA_10, al_0, al_1, al_2, al_4, al_5, al_98, bsP_2, bsP_3, wr_same, wr_wr, wr_ne, up_same, up_ne, Nat.reduceAdd, Int.reduceAdd, Int.reduceSub, Int.reduceMul, Int.reduceLT, Int.reduceLE, Int.reduceEq, Int.reduceNeg, Int.reduceToNat, Nat.reduceLT, Nat.reduceLeDiff, Nat.reduceEqDiff, ↓reduceIte, true_and, and_true, not_true_eq_false, not_false_eq_true, eq_self, or_true, true_or, or_false, false_or, if_true, if_false, Int.toNat_natCast, w_ite, Nat.add_zero, reduceCtorEq, ne_eq, hm1, ho1, s153, e0, ez, lg_self]
    exact hQ'
  | inr E =>
    rw [hr] at hz hA
    have e0 := hA.2
    have tb := tc_b (two := false) (E := E)
    dsimp only at hz
    rw [← hz] at e0 tb
    simp (disch := omega) only [q_268_386, q_268_387, q_268_388, q_268_390, q_268_391, q_268_392, q_268_393, q_268_394, q_268_397, q_268_399, q_268_400, q_268_401, q_268_403, q_268_404, q_268_405, q_268_406, q_268_409, q_268_411, q_268_412, q_268_415, q_268_417, q_268_420, q_268_421, q_268_422, q_268_424, q_268_427, q_268_428, q_268_429, q_268_430, q_268_432, q_268_433, q_268_434, q_268_437, q_268_438, q_268_439, va_rf_s, bz_0, bz_1, bz_ok, bb_ok, Nat.add_assoc, w_lt, w_add, w_sub, w_mul, w_div, em_def, w_eq, w_inT, ↓ilt_t, ↓ilt_f, ↓ieq_t, ↓ieq_f, ntT, w_b, w_ix, kx_v, kx_n, kl_n, kl_i, kl_r, kl_o, inA_i, inA_s, inA_b, inA_z, inA_l, inA_0, inA_4, inA_5, inA_6, inA_7, inA_8, inA_9, inA_10, al_0, al_1, al_2, al_4, al_5, al_98, bsP_2, bsP_3, wr_same, wr_wr, wr_ne, up_same, up_ne, Nat.reduceAdd, Int.reduceAdd, Int.reduceSub, Int.reduceMul, Int.reduceLT, Int.reduceLE, Int.reduceEq, Int.reduceNeg, Int.reduceToNat, Nat.reduceLT, Nat.reduceLeDiff, Nat.reduceEqDiff, ↓reduceIte, true_and, and_true, not_true_eq_false, not_false_eq_true, eq_self, or_true, true_or, or_false, false_or, if_true, if_false, Int.toNat_natCast, w_ite, Nat.add_zero, reduceCtorEq, ne_eq, hm1, s153, e0]
    exact hQ'
theorem kd_5 (h : LB S I L R G c s s) (hf : few s) (hbc : b < c) (hb : Scr S I b n x) (hi : i + 6 ≤ n) (hn : n ≤ 3072) (hQ : KN S I G d c b i Q s) : XX (d + 80) 268 442 [some (.ref b), some (.ref c), some (.ref (c + 121)), some (.ref (c + 6799)), some (.int (w i)), o5, o6, o7] [] (mk S I L R G) Q := by
  have hc := h.1.1.1
  have hm := h.2.1.1.1
  have hb0 := hb.1
  have e1 : ((i : Int) + 1).toNat = i + 1 := by omega
  obtain ⟨v1, b1⟩ := hb.2 (i + 1) (by omega)
  have e2 : ((i : Int) + 2).toNat = i + 2 := by omega
  obtain ⟨v2, b2⟩ := hb.2 (i + 2) (by omega)
  simp (disch := omega) only [q_268_442, q_268_443, q_268_444, q_268_446, q_268_447, q_268_448, q_268_449, q_268_450, q_268_452, q_268_453, q_268_454, q_268_455, q_268_456, q_268_459, q_268_461, q_268_462, q_268_463, q_268_465, q_268_466, q_268_467, q_268_468, q_268_469, q_268_471, q_268_472, q_268_473, q_268_474, q_268_477, q_268_479, q_268_480, q_268_483, q_268_485, q_268_488, q_268_489, q_268_490, q_268_492, q_268_495, q_268_496, q_268_497, q_268_498, q_268_500, q_268_501, q_268_502, q_268_505, q_268_506, q_268_507, va_rf_s, bz_0, bz_1, bz_ok, bb_ok, Nat.add_assoc, w_lt, w_add, w_sub, w_mul, w_div, em_def, w_eq, w_inT, ↓ilt_t, ↓ilt_f, ↓ieq_t, ↓ieq_f, ntT, w_b, w_ix, kx_v, kx_n, kl_n, kl_i, kl_r, kl_o, inA_i, inA_s, inA_b, inA_z, inA_l, inA_0, inA_4, inA_5, inA_6, inA_7, inA_8, inA_9, inA_10, al_0, al_1, al_2, al_4, al_5, al_98, bsP_2, bsP_3, wr_same, wr_wr, wr_ne, up_same, up_ne, Nat.reduceAdd, Int.reduceAdd, Int.reduceSub, Int.reduceMul, Int.reduceLT, Int.reduceLE, Int.reduceEq, Int.reduceNeg, Int.reduceToNat, Nat.reduceLT, Nat.reduceLeDiff, Nat.reduceEqDiff, ↓reduceIte, true_and, and_true, not_true_eq_false, not_false_eq_true, eq_self, or_true, true_or, or_false, false_or, if_true, if_false, Int.toNat_natCast, w_ite, Nat.add_zero, reduceCtorEq, ne_eq, hc, hm, hb0, e1, v1, e2, v2]
  refine sp_243 h hf b1 b2 (fun S' I' L' R' G' z h' hL' hz => ?_)
  have hb1 : S' b = some (.inl (98, n)) := ((hL'.1 b hbc).1).trans hb.1
  have hI1 : I' b = I b := (hL'.1 b hbc).2
  have hm1 : S' (c + 121) = some (.inr 12) := h'.2.1.1.1
  have ho1 : S' (c + 6799) = some (.inl (1, 1)) := h'.2.2.1
  simp (disch := omega) only [q_268_442, q_268_443, q_268_444, q_268_446, q_268_447, q_268_448, q_268_449, q_268_450, q_268_452, q_268_453, q_268_454, q_268_455, q_268_456, q_268_459, q_268_461, q_268_462, q_268_463, q_268_465, q_268_466, q_268_467, q_268_468, q_268_469, q_268_471, q_268_472, q_268_473, q_268_474, q_268_477, q_268_479, q_268_480, q_268_483, q_268_485, q_268_488, q_268_489, q_268_490, q_268_492, q_268_495, q_268_496, q_268_497, q_268_498, q_268_500, q_268_501, q_268_502, q_268_505, q_268_506, q_268_507, va_rf_s, bz_0, bz_1, bz_ok, bb_ok, Nat.add_assoc, w_lt, w_add, w_sub, w_mul, w_div, em_def, w_eq, w_inT, ↓ilt_t, ↓ilt_f, ↓ieq_t, ↓ieq_f, ntT, w_b, w_ix, kx_v, kx_n, kl_n, kl_i, kl_r, kl_o, inA_i, inA_s, inA_b, inA_z, inA_l, inA_0, inA_4, inA_5, inA_6, inA_7, inA_8, inA_9, inA_10, al_0, al_1, al_2, al_4, al_5, al_98, bsP_2, bsP_3, wr_same, wr_wr, wr_ne, up_same, up_ne, Nat.reduceAdd, Int.reduceAdd, Int.reduceSub, Int.reduceMul, Int.reduceLT, Int.reduceLE, Int.reduceEq, Int.reduceNeg, Int.reduceToNat, Nat.reduceLT, Nat.reduceLeDiff, Nat.reduceEqDiff, ↓reduceIte, true_and, and_true, not_true_eq_false, not_false_eq_true, eq_self, or_true, true_or, or_false, false_or, if_true, if_false, Int.toNat_natCast, w_ite, Nat.add_zero, reduceCtorEq, ne_eq, hm1, hb1, hI1, e1, v1, e2, v2]
  refine sp_185 (two := false) h'.2.1 hf b1 b2 (fun I2 L2 o hM hF hA => ?_)
  obtain ⟨h2, hL2⟩ := h'.mdl hM hF
  have hout : L2 (c + 6799) = L' (c + 6799) := (hF _ (Or.inr (by omega))).2
  have s153 := fun {d : Nat} {Q : XO → Hp → Prop} => sp_153 (d := d) (Q := Q) (I := I2) (L := L2) (R := R') (G := G') hm1
  have hQ' := hQ S' I2 L2 R' G' _ (some (.int (w z))) (some (.int o)) o7 h2 (hL'.trans hL2) rDrop_g
  unfold MA at hA
  cases hr : (rDrop s (x (i + 1)) (x (i + 2))).1 with
  | inl v =>
    rw [hr] at hz hA
    obtain ⟨rfl, ez⟩ := hz
    obtain ⟨rfl, e0⟩ := hA
    rw [← hout] at ez
    simp (disch := omega) only [q_268_442, q_268_443, q_268_444, q_268_446, q_268_447, q_268_448, q_268_449, q_268_450, q_268_452, q_268_453, q_268_454, q_268_455, q_268_456, q_268_459, q_268_461, q_268_462, q_268_463, q_268_465, q_268_466, q_268_467, q_268_468, q_268_469, q_268_471, q_268_472, q_268_473, q_268_474, q_268_477, q_268_479, q_268_480, q_268_483, q_268_485, q_268_488, q_268_489, q_268_490, q_268_492, q_268_495, q_268_496, q_268_497, q_268_498, q_268_500, q_268_501, q_268_502, q_268_505, q_268_506, q_268_507, va_rf_s, bz_0, bz_1, bz_ok, bb_ok, Nat.add_assoc, w_lt, w_add, w_sub, w_mul, w_div, em_def, w_eq, w_inT, ↓ilt_t, ↓ilt_f, ↓ieq_t, ↓ieq_f, ntT, w_b, w_ix, kx_v, kx_n, kl_n, kl_i, kl_r, kl_o, inA_i, inA_s, inA_b, inA_z, inA_l, inA_0, inA_4, inA_5, inA_6, inA_7, inA_8, inA_9, inA_10, al_0, al_1, al_2, al_4, al_5, al_98, bsP_2, bsP_3, wr_same, wr_wr, wr_ne, up_same, up_ne, Nat.reduceAdd, Int.reduceAdd, Int.reduceSub, Int.reduceMul, Int.reduceLT, Int.reduceLE, Int.reduceEq, Int.reduceNeg, Int.reduceToNat, Nat.reduceLT, Nat.reduceLeDiff, Nat.reduceEqDiff, ↓reduceIte, true_and, and_true, not_true_eq_false, not_false_eq_true, eq_self, or_true, true_or, or_false, false_or, if_true, if_false, Int.toNat_natCast, w_ite, Nat.add_zero, reduceCtorEq, ne_eq, hm1, ho1, s153, e0, ez, lg_self]
    exact hQ'
  | inr E =>
    rw [hr] at hz hA
    have e0 := hA.2
    have tb := tc_b (two := false) (E := E)
    dsimp only at hz
    rw [← hz] at e0 tb
    simp (disch := omega) only [q_268_442, q_268_443, q_268_444, q_268_446, q_268_447, q_268_448, q_268_449, q_268_450, q_268_452, q_268_453, q_268_454, q_268_455, q_268_456, q_268_459, q_268_461, q_268_462, q_268_463, q_268_465, q_268_466, q_268_467, q_268_468, q_268_469, q_268_471, q_268_472, q_268_473, q_268_474, q_268_477, q_268_479, q_268_480, q_268_483, q_268_485, q_268_488, q_268_489, q_268_490, q_268_492, q_268_495, q_268_496, q_268_497, q_268_498, q_268_500, q_268_501, q_268_502, q_268_505, q_268_506, q_268_507, va_rf_s, bz_0, bz_1, bz_ok, bb_ok, Nat.add_assoc, w_lt, w_add, w_sub, w_mul, w_div, em_def, w_eq, w_inT, ↓ilt_t, ↓ilt_f, ↓ieq_t, ↓ieq_f, ntT, w_b, w_ix, kx_v, kx_n, kl_n, kl_i, kl_r, kl_o, inA_i, inA_s, inA_b, inA_z, inA_l, inA_0, inA_4, inA_5, inA_6, inA_7, inA_8, inA_9, inA_10, al_0, al_1, al_2, al_4, al_5, al_98, bsP_2, bsP_3, wr_same, wr_wr, wr_ne, up_same, up_ne, Nat.reduceAdd, Int.reduceAdd, Int.reduceSub, Int.reduceMul, Int.reduceLT, Int.reduceLE, Int.reduceEq, Int.reduceNeg, Int.reduceToNat, Nat.reduceLT, Nat.reduceLeDiff, Nat.reduceEqDiff, ↓reduceIte, true_and, and_true, not_true_eq_false, not_false_eq_true, eq_self, or_true, true_or, or_false, false_or, if_true, if_false, Int.toNat_natCast, w_ite, Nat.add_zero, reduceCtorEq, ne_eq, hm1, s153, e0]
    exact hQ'
theorem kd_6 (h : LB S I L R G c s s) (hf : few s) (hbc : b < c) (hb : Scr S I b n x) (hi : i + 6 ≤ n) (hn : n ≤ 3072) (hQ : KN S I G d c b i Q s) : XX (d + 80) 268 510 [some (.ref b), some (.ref c), some (.ref (c + 121)), some (.ref (c + 6799)), some (.int (w i)), o5, o6, o7] [] (mk S I L R G) Q := by
  have hc := h.1.1.1
  have hm := h.2.1.1.1
  have hb0 := hb.1
  have e1 : ((i : Int) + 1).toNat = i + 1 := by omega
  obtain ⟨v1, b1⟩ := hb.2 (i + 1) (by omega)
  have e2 : ((i : Int) + 2).toNat = i + 2 := by omega
  obtain ⟨v2, b2⟩ := hb.2 (i + 2) (by omega)
  simp (disch := omega) only [q_268_510, q_268_511, q_268_512, q_268_514, q_268_515, q_268_516, q_268_517, q_268_518, q_268_520, q_268_521, q_268_522, q_268_523, q_268_524, q_268_527, q_268_529, q_268_530, q_268_531, q_268_533, q_268_534, q_268_535, q_268_536, q_268_537, q_268_539, q_268_540, q_268_541, q_268_542, q_268_545, q_268_547, q_268_548, q_268_551, q_268_553, q_268_556, q_268_557, q_268_558, q_268_560, q_268_563, q_268_564, q_268_565, q_268_566, q_268_568, q_268_569, q_268_570, q_268_573, q_268_574, q_268_575, va_rf_s, bz_0, bz_1, bz_ok, bb_ok, Nat.add_assoc, w_lt, w_add, w_sub, w_mul, w_div, em_def, w_eq, w_inT, ↓ilt_t, ↓ilt_f, ↓ieq_t, ↓ieq_f, ntT, w_b, w_ix, kx_v, kx_n, kl_n, kl_i, kl_r, kl_o, inA_i, inA_s, inA_b, inA_z, inA_l, inA_0, inA_4, inA_5, inA_6, inA_7, inA_8, inA_9, inA_10, al_0, al_1, al_2, al_4, al_5, al_98, bsP_2, bsP_3, wr_same, wr_wr, wr_ne, up_same, up_ne, Nat.reduceAdd, Int.reduceAdd, Int.reduceSub, Int.reduceMul, Int.reduceLT, Int.reduceLE, Int.reduceEq, Int.reduceNeg, Int.reduceToNat, Nat.reduceLT, Nat.reduceLeDiff, Nat.reduceEqDiff, ↓reduceIte, true_and, and_true, not_true_eq_false, not_false_eq_true, eq_self, or_true, true_or, or_false, false_or, if_true, if_false, Int.toNat_natCast, w_ite, Nat.add_zero, reduceCtorEq, ne_eq, hc, hm, hb0, e1, v1, e2, v2]
  refine sp_244 h hf b1 b2 (fun S' I' L' R' G' z h' hL' hz => ?_)
  have hb1 : S' b = some (.inl (98, n)) := ((hL'.1 b hbc).1).trans hb.1
  have hI1 : I' b = I b := (hL'.1 b hbc).2
  have hm1 : S' (c + 121) = some (.inr 12) := h'.2.1.1.1
  have ho1 : S' (c + 6799) = some (.inl (1, 1)) := h'.2.2.1
  simp (disch := omega) only [q_268_510, q_268_511, q_268_512, q_268_514, q_268_515, q_268_516, q_268_517, q_268_518, q_268_520, q_268_521, q_268_522, q_268_523, q_268_524, q_268_527, q_268_529, q_268_530, q_268_531, q_268_533, q_268_534, q_268_535, q_268_536, q_268_537, q_268_539, q_268_540, q_268_541, q_268_542, q_268_545, q_268_547, q_268_548, q_268_551, q_268_553, q_268_556, q_268_557, q_268_558, q_268_560, q_268_563, q_268_564, q_268_565, q_268_566, q_268_568, q_268_569, q_268_570, q_268_573, q_268_574, q_268_575, va_rf_s, bz_0, bz_1, bz_ok, bb_ok, Nat.add_assoc, w_lt, w_add, w_sub, w_mul, w_div, em_def, w_eq, w_inT, ↓ilt_t, ↓ilt_f, ↓ieq_t, ↓ieq_f, ntT, w_b, w_ix, kx_v, kx_n, kl_n, kl_i, kl_r, kl_o, inA_i, inA_s, inA_b, inA_z, inA_l, inA_0, inA_4, inA_5, inA_6, inA_7, inA_8, inA_9, inA_10, al_0, al_1, al_2, al_4, al_5, al_98, bsP_2, bsP_3, wr_same, wr_wr, wr_ne, up_same, up_ne, Nat.reduceAdd, Int.reduceAdd, Int.reduceSub, Int.reduceMul, Int.reduceLT, Int.reduceLE, Int.reduceEq, Int.reduceNeg, Int.reduceToNat, Nat.reduceLT, Nat.reduceLeDiff, Nat.reduceEqDiff, ↓reduceIte, true_and, and_true, not_true_eq_false, not_false_eq_true, eq_self, or_true, true_or, or_false, false_or, if_true, if_false, Int.toNat_natCast, w_ite, Nat.add_zero, reduceCtorEq, ne_eq, hm1, hb1, hI1, e1, v1, e2, v2]
  refine sp_200 h'.2.1 hf b1 b2 (fun I2 L2 o hM hF hA => ?_)
  obtain ⟨h2, hL2⟩ := h'.mdl hM hF
  have hout : L2 (c + 6799) = L' (c + 6799) := (hF _ (Or.inr (by omega))).2
  have s153 := fun {d : Nat} {Q : XO → Hp → Prop} => sp_153 (d := d) (Q := Q) (I := I2) (L := L2) (R := R') (G := G') hm1
  have hQ' := hQ S' I2 L2 R' G' _ (some (.int (w z))) (some (.int o)) o7 h2 (hL'.trans hL2) rRise_g
  unfold MA at hA
  cases hr : (rRise s (x (i + 1)) (x (i + 2))).1 with
  | inl v =>
    rw [hr] at hz hA
    obtain ⟨rfl, ez⟩ := hz
    obtain ⟨rfl, e0⟩ := hA
    rw [← hout] at ez
    simp (disch := omega) only [q_268_510, q_268_511, q_268_512, q_268_514, q_268_515, q_268_516, q_268_517, q_268_518, q_268_520, q_268_521, q_268_522, q_268_523, q_268_524, q_268_527, q_268_529, q_268_530, q_268_531, q_268_533, q_268_534, q_268_535, q_268_536, q_268_537, q_268_539, q_268_540, q_268_541, q_268_542, q_268_545, q_268_547, q_268_548, q_268_551, q_268_553, q_268_556, q_268_557, q_268_558, q_268_560, q_268_563, q_268_564, q_268_565, q_268_566, q_268_568, q_268_569, q_268_570, q_268_573, q_268_574, q_268_575, va_rf_s, bz_0, bz_1, bz_ok, bb_ok, Nat.add_assoc, w_lt, w_add, w_sub, w_mul, w_div, em_def, w_eq, w_inT, ↓ilt_t, ↓ilt_f, ↓ieq_t, ↓ieq_f, ntT, w_b, w_ix, kx_v, kx_n, kl_n, kl_i, kl_r, kl_o, inA_i, inA_s, inA_b, inA_z, inA_l, inA_0, inA_4, inA_5, inA_6, inA_7, inA_8, inA_9, inA_10, al_0, al_1, al_2, al_4, al_5, al_98, bsP_2, bsP_3, wr_same, wr_wr, wr_ne, up_same, up_ne, Nat.reduceAdd, Int.reduceAdd, Int.reduceSub, Int.reduceMul, Int.reduceLT, Int.reduceLE, Int.reduceEq, Int.reduceNeg, Int.reduceToNat, Nat.reduceLT, Nat.reduceLeDiff, Nat.reduceEqDiff, ↓reduceIte, true_and, and_true, not_true_eq_false, not_false_eq_true, eq_self, or_true, true_or, or_false, false_or, if_true, if_false, Int.toNat_natCast, w_ite, Nat.add_zero, reduceCtorEq, ne_eq, hm1, ho1, s153, e0, ez, lg_self]
    exact hQ'
  | inr E =>
    rw [hr] at hz hA
    have e0 := hA.2
    have tb := tc_b (two := true) (E := E)
    dsimp only at hz
    rw [← hz] at e0 tb
    simp (disch := omega) only [q_268_510, q_268_511, q_268_512, q_268_514, q_268_515, q_268_516, q_268_517, q_268_518, q_268_520, q_268_521, q_268_522, q_268_523, q_268_524, q_268_527, q_268_529, q_268_530, q_268_531, q_268_533, q_268_534, q_268_535, q_268_536, q_268_537, q_268_539, q_268_540, q_268_541, q_268_542, q_268_545, q_268_547, q_268_548, q_268_551, q_268_553, q_268_556, q_268_557, q_268_558, q_268_560, q_268_563, q_268_564, q_268_565, q_268_566, q_268_568, q_268_569, q_268_570, q_268_573, q_268_574, q_268_575, va_rf_s, bz_0, bz_1, bz_ok, bb_ok, Nat.add_assoc, w_lt, w_add, w_sub, w_mul, w_div, em_def, w_eq, w_inT, ↓ilt_t, ↓ilt_f, ↓ieq_t, ↓ieq_f, ntT, w_b, w_ix, kx_v, kx_n, kl_n, kl_i, kl_r, kl_o, inA_i, inA_s, inA_b, inA_z, inA_l, inA_0, inA_4, inA_5, inA_6, inA_7, inA_8, inA_9, inA_10, al_0, al_1, al_2, al_4, al_5, al_98, bsP_2, bsP_3, wr_same, wr_wr, wr_ne, up_same, up_ne, Nat.reduceAdd, Int.reduceAdd, Int.reduceSub, Int.reduceMul, Int.reduceLT, Int.reduceLE, Int.reduceEq, Int.reduceNeg, Int.reduceToNat, Nat.reduceLT, Nat.reduceLeDiff, Nat.reduceEqDiff, ↓reduceIte, true_and, and_true, not_true_eq_false, not_false_eq_true, eq_self, or_true, true_or, or_false, false_or, if_true, if_false, Int.toNat_natCast, w_ite, Nat.add_zero, reduceCtorEq, ne_eq, hm1, s153, e0]
    exact hQ'
theorem kd_8 (h : LB S I L R G c s s) (hf : few s) (hbc : b < c) (hb : Scr S I b n x) (hi : i + 6 ≤ n) (hn : n ≤ 3072) (hQ : KN S I G d c b i Q s) : XX (d + 80) 268 591 [some (.ref b), some (.ref c), some (.ref (c + 121)), some (.ref (c + 6799)), some (.int (w i)), o5, o6, o7] [] (mk S I L R G) Q := by
  have hc := h.1.1.1
  have hm := h.2.1.1.1
  have hb0 := hb.1
  have e1 : ((i : Int) + 1).toNat = i + 1 := by omega
  obtain ⟨v1, b1⟩ := hb.2 (i + 1) (by omega)
  simp (disch := omega) only [q_268_591, q_268_592, q_268_593, q_268_595, q_268_596, q_268_597, q_268_598, q_268_599, q_268_602, q_268_604, q_268_605, q_268_606, q_268_608, q_268_609, q_268_610, q_268_611, q_268_614, q_268_616, q_268_617, q_268_620, q_268_622, q_268_625, q_268_626, q_268_627, q_268_629, q_268_632, q_268_633, q_268_634, q_268_635, q_268_637, q_268_638, q_268_639, q_268_642, q_268_643, q_268_644, va_rf_s, bz_0, bz_1, bz_ok, bb_ok, Nat.add_assoc, w_lt, w_add, w_sub, w_mul, w_div, em_def, w_eq, w_inT, ↓ilt_t, ↓ilt_f, ↓ieq_t, ↓ieq_f, ntT, w_b, w_ix, kx_v, kx_n, kl_n, kl_i, kl_r, kl_o, inA_i, inA_s, inA_b, inA_z, inA_l, inA_0, inA_4, inA_5, inA_6, inA_7, inA_8, inA_9, inA_10, al_0, al_1, al_2, al_4, al_5, al_98, bsP_2, bsP_3, wr_same, wr_wr, wr_ne, up_same, up_ne, Nat.reduceAdd, Int.reduceAdd, Int.reduceSub, Int.reduceMul, Int.reduceLT, Int.reduceLE, Int.reduceEq, Int.reduceNeg, Int.reduceToNat, Nat.reduceLT, Nat.reduceLeDiff, Nat.reduceEqDiff, ↓reduceIte, true_and, and_true, not_true_eq_false, not_false_eq_true, eq_self, or_true, true_or, or_false, false_or, if_true, if_false, Int.toNat_natCast, w_ite, Nat.add_zero, reduceCtorEq, ne_eq, hc, hm, hb0, e1, v1]
  refine sp_245 h hf b1 (fun S' I' L' R' G' z h' hL' hz => ?_)
  have hb1 : S' b = some (.inl (98, n)) := ((hL'.1 b hbc).1).trans hb.1
  have hI1 : I' b = I b := (hL'.1 b hbc).2
  have hm1 : S' (c + 121) = some (.inr 12) := h'.2.1.1.1
  have ho1 : S' (c + 6799) = some (.inl (1, 1)) := h'.2.2.1
  simp (disch := omega) only [q_268_591, q_268_592, q_268_593, q_268_595, q_268_596, q_268_597, q_268_598, q_268_599, q_268_602, q_268_604, q_268_605, q_268_606, q_268_608, q_268_609, q_268_610, q_268_611, q_268_614, q_268_616, q_268_617, q_268_620, q_268_622, q_268_625, q_268_626, q_268_627, q_268_629, q_268_632, q_268_633, q_268_634, q_268_635, q_268_637, q_268_638, q_268_639, q_268_642, q_268_643, q_268_644, va_rf_s, bz_0, bz_1, bz_ok, bb_ok, Nat.add_assoc, w_lt, w_add, w_sub, w_mul, w_div, em_def, w_eq, w_inT, ↓ilt_t, ↓ilt_f, ↓ieq_t, ↓ieq_f, ntT, w_b, w_ix, kx_v, kx_n, kl_n, kl_i, kl_r, kl_o, inA_i, inA_s, inA_b, inA_z, inA_l, inA_0, inA_4, inA_5, inA_6, inA_7, inA_8, inA_9, inA_10, al_0, al_1, al_2, al_4, al_5, al_98, bsP_2, bsP_3, wr_same, wr_wr, wr_ne, up_same, up_ne, Nat.reduceAdd, Int.reduceAdd, Int.reduceSub, Int.reduceMul, Int.reduceLT, Int.reduceLE, Int.reduceEq, Int.reduceNeg, Int.reduceToNat, Nat.reduceLT, Nat.reduceLeDiff, Nat.reduceEqDiff, ↓reduceIte, true_and, and_true, not_true_eq_false, not_false_eq_true, eq_self, or_true, true_or, or_false, false_or, if_true, if_false, Int.toNat_natCast, w_ite, Nat.add_zero, reduceCtorEq, ne_eq, hm1, hb1, hI1, e1, v1]
  refine sp_201 h'.2.1 hf b1 (fun I2 L2 o hM hF hA => ?_)
  obtain ⟨h2, hL2⟩ := h'.mdl hM hF
  have hout : L2 (c + 6799) = L' (c + 6799) := (hF _ (Or.inr (by omega))).2
  have s153 := fun {d : Nat} {Q : XO → Hp → Prop} => sp_153 (d := d) (Q := Q) (I := I2) (L := L2) (R := R') (G := G') hm1
  have hQ' := hQ S' I2 L2 R' G' _ (some (.int (w z))) (some (.int o)) o7 h2 (hL'.trans hL2) rTold_g
  unfold MA at hA
  cases hr : (rTold s (x (i + 1))).1 with
  | inl v =>
    rw [hr] at hz hA
    obtain ⟨rfl, ez⟩ := hz
    obtain ⟨rfl, e0⟩ := hA
    rw [← hout] at ez
    simp (disch := omega) only [q_268_591, q_268_592, q_268_593, q_268_595, q_268_596, q_268_597, q_268_598, q_268_599, q_268_602, q_268_604, q_268_605, q_268_606, q_268_608, q_268_609, q_268_610, q_268_611, q_268_614, q_268_616, q_268_617, q_268_620, q_268_622, q_268_625, q_268_626, q_268_627, q_268_629, q_268_632, q_268_633, q_268_634, q_268_635, q_268_637, q_268_638, q_268_639, q_268_642, q_268_643, q_268_644, va_rf_s, bz_0, bz_1, bz_ok, bb_ok, Nat.add_assoc, w_lt, w_add, w_sub, w_mul, w_div, em_def, w_eq, w_inT, ↓ilt_t, ↓ilt_f, ↓ieq_t, ↓ieq_f, ntT, w_b, w_ix, kx_v, kx_n, kl_n, kl_i, kl_r, kl_o, inA_i, inA_s, inA_b, inA_z, inA_l, inA_0, inA_4, inA_5, inA_6, inA_7, inA_8, inA_9, inA_10, al_0, al_1, al_2, al_4, al_5, al_98, bsP_2, bsP_3, wr_same, wr_wr, wr_ne, up_same, up_ne, Nat.reduceAdd, Int.reduceAdd, Int.reduceSub, Int.reduceMul, Int.reduceLT, Int.reduceLE, Int.reduceEq, Int.reduceNeg, Int.reduceToNat, Nat.reduceLT, Nat.reduceLeDiff, Nat.reduceEqDiff, ↓reduceIte, true_and, and_true, not_true_eq_false, not_false_eq_true, eq_self, or_true, true_or, or_false, false_or, if_true, if_false, Int.toNat_natCast, w_ite, Nat.add_zero, reduceCtorEq, ne_eq, hm1, ho1, s153, e0, ez, lg_self]
    exact hQ'
  | inr E =>
    rw [hr] at hz hA
    have e0 := hA.2
    have tb := tc_b (two := false) (E := E)
    dsimp only at hz
    rw [← hz] at e0 tb
    simp (disch := omega) only [q_268_591, q_268_592, q_268_593, q_268_595, q_268_596, q_268_597, q_268_598, q_268_599, q_268_602, q_268_604, q_268_605, q_268_606, q_268_608, q_268_609, q_268_610, q_268_611, q_268_614, q_268_616, q_268_617, q_268_620, q_268_622, q_268_625, q_268_626, q_268_627, q_268_629, q_268_632, q_268_633, q_268_634, q_268_635, q_268_637, q_268_638, q_268_639, q_268_642, q_268_643, q_268_644, va_rf_s, bz_0, bz_1, bz_ok, bb_ok, Nat.add_assoc, w_lt, w_add, w_sub, w_mul, w_div, em_def, w_eq, w_inT, ↓ilt_t, ↓ilt_f, ↓ieq_t, ↓ieq_f, ntT, w_b, w_ix, kx_v, kx_n, kl_n, kl_i, kl_r, kl_o, inA_i, inA_s, inA_b, inA_z, inA_l, inA_0, inA_4, inA_5, inA_6, inA_7, inA_8, inA_9, inA_10, al_0, al_1, al_2, al_4, al_5, al_98, bsP_2, bsP_3, wr_same, wr_wr, wr_ne, up_same, up_ne, Nat.reduceAdd, Int.reduceAdd, Int.reduceSub, Int.reduceMul, Int.reduceLT, Int.reduceLE, Int.reduceEq, Int.reduceNeg, Int.reduceToNat, Nat.reduceLT, Nat.reduceLeDiff, Nat.reduceEqDiff, ↓reduceIte, true_and, and_true, not_true_eq_false, not_false_eq_true, eq_self, or_true, true_or, or_false, false_or, if_true, if_false, Int.toNat_natCast, w_ite, Nat.add_zero, reduceCtorEq, ne_eq, hm1, s153, e0]
    exact hQ'
theorem kd_9 (h : LB S I L R G c s s) (hf : few s) (hbc : b < c) (hb : Scr S I b n x) (hi : i + 6 ≤ n) (hn : n ≤ 3072) (hQ : KN S I G d c b i Q s) : XX (d + 80) 268 647 [some (.ref b), some (.ref c), some (.ref (c + 121)), some (.ref (c + 6799)), some (.int (w i)), o5, o6, o7] [] (mk S I L R G) Q := by
  have hc := h.1.1.1
  have hm := h.2.1.1.1
  have hb0 := hb.1
  have e1 : ((i : Int) + 1).toNat = i + 1 := by omega
  obtain ⟨v1, b1⟩ := hb.2 (i + 1) (by omega)
  have e2 : ((i : Int) + 2).toNat = i + 2 := by omega
  obtain ⟨v2, b2⟩ := hb.2 (i + 2) (by omega)
  have e3 : ((i : Int) + 3).toNat = i + 3 := by omega
  obtain ⟨v3, b3⟩ := hb.2 (i + 3) (by omega)
  simp (disch := omega) only [q_268_647, q_268_648, q_268_649, q_268_651, q_268_652, q_268_653, q_268_654, q_268_655, q_268_657, q_268_658, q_268_659, q_268_660, q_268_661, q_268_663, q_268_664, q_268_665, q_268_666, q_268_667, q_268_670, q_268_672, q_268_673, q_268_674, q_268_676, q_268_677, q_268_678, q_268_679, q_268_680, q_268_682, q_268_683, q_268_684, q_268_685, q_268_686, q_268_688, q_268_689, q_268_690, q_268_691, q_268_694, q_268_696, q_268_697, q_268_700, q_268_702, q_268_705, q_268_706, q_268_707, q_268_709, q_268_712, q_268_713, q_268_714, q_268_715, q_268_717, q_268_718, q_268_719, q_268_722, q_268_723, q_268_724, va_rf_s, bz_0, bz_1, bz_ok, bb_ok, Nat.add_assoc, w_lt, w_add, w_sub, w_mul, w_div, em_def, w_eq, w_inT, ↓ilt_t, ↓ilt_f, ↓ieq_t, ↓ieq_f, ntT, w_b, w_ix, kx_v, kx_n, kl_n, kl_i, kl_r, kl_o, inA_i, inA_s, inA_b, inA_z, inA_l, inA_0, inA_4, inA_5, inA_6, inA_7, inA_8, inA_9, inA_10, al_0, al_1, al_2, al_4, al_5, al_98, bsP_2, bsP_3, wr_same, wr_wr, wr_ne, up_same, up_ne, Nat.reduceAdd, Int.reduceAdd, Int.reduceSub, Int.reduceMul, Int.reduceLT, Int.reduceLE, Int.reduceEq, Int.reduceNeg, Int.reduceToNat, Nat.reduceLT, Nat.reduceLeDiff, Nat.reduceEqDiff, ↓reduceIte, true_and, and_true, not_true_eq_false, not_false_eq_true, eq_self, or_true, true_or, or_false, false_or, if_true, if_false, Int.toNat_natCast, w_ite, Nat.add_zero, reduceCtorEq, ne_eq, hc, hm, hb0, e1, v1, e2, v2, e3, v3]
  refine sp_246 h hf b1 b2 b3 (fun S' I' L' R' G' z h' hL' hz => ?_)
  have hb1 : S' b = some (.inl (98, n)) := ((hL'.1 b hbc).1).trans hb.1
  have hI1 : I' b = I b := (hL'.1 b hbc).2
  have hm1 : S' (c + 121) = some (.inr 12) := h'.2.1.1.1
  have ho1 : S' (c + 6799) = some (.inl (1, 1)) := h'.2.2.1
  simp (disch := omega) only [q_268_647, q_268_648, q_268_649, q_268_651, q_268_652, q_268_653, q_268_654, q_268_655, q_268_657, q_268_658, q_268_659, q_268_660, q_268_661, q_268_663, q_268_664, q_268_665, q_268_666, q_268_667, q_268_670, q_268_672, q_268_673, q_268_674, q_268_676, q_268_677, q_268_678, q_268_679, q_268_680, q_268_682, q_268_683, q_268_684, q_268_685, q_268_686, q_268_688, q_268_689, q_268_690, q_268_691, q_268_694, q_268_696, q_268_697, q_268_700, q_268_702, q_268_705, q_268_706, q_268_707, q_268_709, q_268_712, q_268_713, q_268_714, q_268_715, q_268_717, q_268_718, q_268_719, q_268_722, q_268_723, q_268_724, va_rf_s, bz_0, bz_1, bz_ok, bb_ok, Nat.add_assoc, w_lt, w_add, w_sub, w_mul, w_div, em_def, w_eq, w_inT, ↓ilt_t, ↓ilt_f, ↓ieq_t, ↓ieq_f, ntT, w_b, w_ix, kx_v, kx_n, kl_n, kl_i, kl_r, kl_o, inA_i, inA_s, inA_b, inA_z, inA_l, inA_0, inA_4, inA_5, inA_6, inA_7, inA_8, inA_9, inA_10, al_0, al_1, al_2, al_4, al_5, al_98, bsP_2, bsP_3, wr_same, wr_wr, wr_ne, up_same, up_ne, Nat.reduceAdd, Int.reduceAdd, Int.reduceSub, Int.reduceMul, Int.reduceLT, Int.reduceLE, Int.reduceEq, Int.reduceNeg, Int.reduceToNat, Nat.reduceLT, Nat.reduceLeDiff, Nat.reduceEqDiff, ↓reduceIte, true_and, and_true, not_true_eq_false, not_false_eq_true, eq_self, or_true, true_or, or_false, false_or, if_true, if_false, Int.toNat_natCast, w_ite, Nat.add_zero, reduceCtorEq, ne_eq, hm1, hb1, hI1, e1, v1, e2, v2, e3, v3]
  refine sp_203 h'.2.1 hf b1 b2 b3 (fun I2 L2 o hM hF hA => ?_)
  obtain ⟨h2, hL2⟩ := h'.mdl hM hF
  have hout : L2 (c + 6799) = L' (c + 6799) := (hF _ (Or.inr (by omega))).2
  have s153 := fun {d : Nat} {Q : XO → Hp → Prop} => sp_153 (d := d) (Q := Q) (I := I2) (L := L2) (R := R') (G := G') hm1
  have hQ' := hQ S' I2 L2 R' G' _ (some (.int (w z))) (some (.int o)) o7 h2 (hL'.trans hL2) rRule_g
  unfold MA at hA
  cases hr : (rRule s (x (i + 1)) (x (i + 2)) (x (i + 3))).1 with
  | inl v =>
    rw [hr] at hz hA
    obtain ⟨rfl, ez⟩ := hz
    obtain ⟨rfl, e0⟩ := hA
    rw [← hout] at ez
    simp (disch := omega) only [q_268_647, q_268_648, q_268_649, q_268_651, q_268_652, q_268_653, q_268_654, q_268_655, q_268_657, q_268_658, q_268_659, q_268_660, q_268_661, q_268_663, q_268_664, q_268_665, q_268_666, q_268_667, q_268_670, q_268_672, q_268_673, q_268_674, q_268_676, q_268_677, q_268_678, q_268_679, q_268_680, q_268_682, q_268_683, q_268_684, q_268_685, q_268_686, q_268_688, q_268_689, q_268_690, q_268_691, q_268_694, q_268_696, q_268_697, q_268_700, q_268_702, q_268_705, q_268_706, q_268_707, q_268_709, q_268_712, q_268_713, q_268_714, q_268_715, q_268_717, q_268_718, q_268_719, q_268_722, q_268_723, q_268_724, va_rf_s, bz_0, bz_1, bz_ok, bb_ok, Nat.add_assoc, w_lt, w_add, w_sub, w_mul, w_div, em_def, w_eq, w_inT, ↓ilt_t, ↓ilt_f, ↓ieq_t, ↓ieq_f, ntT, w_b, w_ix, kx_v, kx_n, kl_n, kl_i, kl_r, kl_o, inA_i, inA_s, inA_b, inA_z, inA_l, inA_0, inA_4, inA_5, inA_6, inA_7, inA_8, inA_9, inA_10, al_0, al_1, al_2, al_4, al_5, al_98, bsP_2, bsP_3, wr_same, wr_wr, wr_ne, up_same, up_ne, Nat.reduceAdd, Int.reduceAdd, Int.reduceSub, Int.reduceMul, Int.reduceLT, Int.reduceLE, Int.reduceEq, Int.reduceNeg, Int.reduceToNat, Nat.reduceLT, Nat.reduceLeDiff, Nat.reduceEqDiff, ↓reduceIte, true_and, and_true, not_true_eq_false, not_false_eq_true, eq_self, or_true, true_or, or_false, false_or, if_true, if_false, Int.toNat_natCast, w_ite, Nat.add_zero, reduceCtorEq, ne_eq, hm1, ho1, s153, e0, ez, lg_self]
    exact hQ'
  | inr E =>
    rw [hr] at hz hA
    have e0 := hA.2
    have tb := tc_b (two := true) (E := E)
    dsimp only at hz
    rw [← hz] at e0 tb
    simp (disch := omega) only [q_268_647, q_268_648, q_268_649, q_268_651, q_268_652, q_268_653, q_268_654, q_268_655, q_268_657, q_268_658, q_268_659, q_268_660, q_268_661, q_268_663, q_268_664, q_268_665, q_268_666, q_268_667, q_268_670, q_268_672, q_268_673, q_268_674, q_268_676, q_268_677, q_268_678, q_268_679, q_268_680, q_268_682, q_268_683, q_268_684, q_268_685, q_268_686, q_268_688, q_268_689, q_268_690, q_268_691, q_268_694, q_268_696, q_268_697, q_268_700, q_268_702, q_268_705, q_268_706, q_268_707, q_268_709, q_268_712, q_268_713, q_268_714, q_268_715, q_268_717, q_268_718, q_268_719, q_268_722, q_268_723, q_268_724, va_rf_s, bz_0, bz_1, bz_ok, bb_ok, Nat.add_assoc, w_lt, w_add, w_sub, w_mul, w_div, em_def, w_eq, w_inT, ↓ilt_t, ↓ilt_f, ↓ieq_t, ↓ieq_f, ntT, w_b, w_ix, kx_v, kx_n, kl_n, kl_i, kl_r, kl_o, inA_i, inA_s, inA_b, inA_z, inA_l, inA_0, inA_4, inA_5, inA_6, inA_7, inA_8, inA_9, inA_10, al_0, al_1, al_2, al_4, al_5, al_98, bsP_2, bsP_3, wr_same, wr_wr, wr_ne, up_same, up_ne, Nat.reduceAdd, Int.reduceAdd, Int.reduceSub, Int.reduceMul, Int.reduceLT, Int.reduceLE, Int.reduceEq, Int.reduceNeg, Int.reduceToNat, Nat.reduceLT, Nat.reduceLeDiff, Nat.reduceEqDiff, ↓reduceIte, true_and, and_true, not_true_eq_false, not_false_eq_true, eq_self, or_true, true_or, or_false, false_or, if_true, if_false, Int.toNat_natCast, w_ite, Nat.add_zero, reduceCtorEq, ne_eq, hm1, s153, e0]
    exact hQ'
theorem kd_10 (h : LB S I L R G c s s) (hf : few s) (hbc : b < c) (hb : Scr S I b n x) (hi : i + 6 ≤ n) (hn : n ≤ 3072) (hQ : KN S I G d c b i Q s) : XX (d + 80) 268 727 [some (.ref b), some (.ref c), some (.ref (c + 121)), some (.ref (c + 6799)), some (.int (w i)), o5, o6, o7] [] (mk S I L R G) Q := by
  have hc := h.1.1.1
  have hm := h.2.1.1.1
  have hb0 := hb.1
  have e1 : ((i : Int) + 1).toNat = i + 1 := by omega
  obtain ⟨v1, b1⟩ := hb.2 (i + 1) (by omega)
  have e2 : ((i : Int) + 2).toNat = i + 2 := by omega
  obtain ⟨v2, b2⟩ := hb.2 (i + 2) (by omega)
  have e3 : ((i : Int) + 3).toNat = i + 3 := by omega
  obtain ⟨v3, b3⟩ := hb.2 (i + 3) (by omega)
  have e4 : ((i : Int) + 4).toNat = i + 4 := by omega
  obtain ⟨v4, b4⟩ := hb.2 (i + 4) (by omega)
  simp (disch := omega) only [q_268_727, q_268_728, q_268_729, q_268_731, q_268_732, q_268_733, q_268_734, q_268_735, q_268_737, q_268_738, q_268_739, q_268_740, q_268_741, q_268_743, q_268_744, q_268_745, q_268_746, q_268_747, q_268_749, q_268_750, q_268_751, q_268_752, q_268_753, q_268_756, q_268_758, q_268_759, q_268_760, q_268_762, q_268_763, q_268_764, q_268_765, q_268_766, q_268_768, q_268_769, q_268_770, q_268_771, q_268_772, q_268_774, q_268_775, q_268_776, q_268_777, q_268_778, q_268_780, q_268_781, q_268_782, q_268_783, q_268_786, q_268_788, q_268_789, q_268_792, q_268_794, q_268_797, q_268_798, q_268_799, q_268_801, q_268_804, q_268_805, q_268_806, q_268_807, q_268_809, q_268_810, q_268_811, q_268_814, q_268_815, q_268_816, va_rf_s, bz_0, bz_1, bz_ok, bb_ok, Nat.add_assoc, w_lt, w_add, w_sub, w_mul, w_div, em_def, w_eq, w_inT, ↓ilt_t, ↓ilt_f, ↓ieq_t, ↓ieq_f, ntT, w_b, w_ix, kx_v, kx_n, kl_n, kl_i, kl_r, kl_o, inA_i, inA_s, inA_b, inA_z, inA_l, inA_0, inA_4, inA_5, inA_6, inA_7, inA_8, inA_9, inA_10, al_0, al_1, al_2, al_4, al_5, al_98, bsP_2, bsP_3, wr_same, wr_wr, wr_ne, up_same, up_ne, Nat.reduceAdd, Int.reduceAdd, Int.reduceSub, Int.reduceMul, Int.reduceLT, Int.reduceLE, Int.reduceEq, Int.reduceNeg, Int.reduceToNat, Nat.reduceLT, Nat.reduceLeDiff, Nat.reduceEqDiff, ↓reduceIte, true_and, and_true, not_true_eq_false, not_false_eq_true, eq_self, or_true, true_or, or_false, false_or, if_true, if_false, Int.toNat_natCast, w_ite, Nat.add_zero, reduceCtorEq, ne_eq, hc, hm, hb0, e1, v1, e2, v2, e3, v3, e4, v4]
  refine sp_247 h hf b1 b2 b3 b4 (fun S' I' L' R' G' z h' hL' hz => ?_)
  have hb1 : S' b = some (.inl (98, n)) := ((hL'.1 b hbc).1).trans hb.1
  have hI1 : I' b = I b := (hL'.1 b hbc).2
  have hm1 : S' (c + 121) = some (.inr 12) := h'.2.1.1.1
  have ho1 : S' (c + 6799) = some (.inl (1, 1)) := h'.2.2.1
  simp (disch := omega) only [q_268_727, q_268_728, q_268_729, q_268_731, q_268_732, q_268_733, q_268_734, q_268_735, q_268_737, q_268_738, q_268_739, q_268_740, q_268_741, q_268_743, q_268_744, q_268_745, q_268_746, q_268_747, q_268_749, q_268_750, q_268_751, q_268_752, q_268_753, q_268_756, q_268_758, q_268_759, q_268_760, q_268_762, q_268_763, q_268_764, q_268_765, q_268_766, q_268_768, q_268_769, q_268_770, q_268_771, q_268_772, q_268_774, q_268_775, q_268_776, q_268_777, q_268_778, q_268_780, q_268_781, q_268_782, q_268_783, q_268_786, q_268_788, q_268_789, q_268_792, q_268_794, q_268_797, q_268_798, q_268_799, q_268_801, q_268_804, q_268_805, q_268_806, q_268_807, q_268_809, q_268_810, q_268_811, q_268_814, q_268_815, q_268_816, va_rf_s, bz_0, bz_1, bz_ok, bb_ok, Nat.add_assoc, w_lt, w_add, w_sub, w_mul, w_div, em_def, w_eq, w_inT, ↓ilt_t, ↓ilt_f, ↓ieq_t, ↓ieq_f, ntT, w_b, w_ix, kx_v, kx_n, kl_n, kl_i, kl_r, kl_o, inA_i, inA_s, inA_b, inA_z, inA_l, inA_0, inA_4, inA_5, inA_6, inA_7, inA_8, inA_9, inA_10, al_0, al_1, al_2, al_4, al_5, al_98, bsP_2, bsP_3, wr_same, wr_wr, wr_ne, up_same, up_ne, Nat.reduceAdd, Int.reduceAdd, Int.reduceSub, Int.reduceMul, Int.reduceLT, Int.reduceLE, Int.reduceEq, Int.reduceNeg, Int.reduceToNat, Nat.reduceLT, Nat.reduceLeDiff, Nat.reduceEqDiff, ↓reduceIte, true_and, and_true, not_true_eq_false, not_false_eq_true, eq_self, or_true, true_or, or_false, false_or, if_true, if_false, Int.toNat_natCast, w_ite, Nat.add_zero, reduceCtorEq, ne_eq, hm1, hb1, hI1, e1, v1, e2, v2, e3, v3, e4, v4]
  refine sp_204 h'.2.1 hf b1 b2 b3 b4 (fun I2 L2 o hM hF hA => ?_)
  obtain ⟨h2, hL2⟩ := h'.mdl hM hF
  have hout : L2 (c + 6799) = L' (c + 6799) := (hF _ (Or.inr (by omega))).2
  have s153 := fun {d : Nat} {Q : XO → Hp → Prop} => sp_153 (d := d) (Q := Q) (I := I2) (L := L2) (R := R') (G := G') hm1
  have hQ' := hQ S' I2 L2 R' G' _ (some (.int (w z))) (some (.int o)) o7 h2 (hL'.trans hL2) rItem_g
  unfold MA at hA
  cases hr : (rItem s (x (i + 1)) (x (i + 2)) (x (i + 3)) (x (i + 4))).1 with
  | inl v =>
    rw [hr] at hz hA
    obtain ⟨rfl, ez⟩ := hz
    obtain ⟨rfl, e0⟩ := hA
    rw [← hout] at ez
    simp (disch := omega) only [q_268_727, q_268_728, q_268_729, q_268_731, q_268_732, q_268_733, q_268_734, q_268_735, q_268_737, q_268_738, q_268_739, q_268_740, q_268_741, q_268_743, q_268_744, q_268_745, q_268_746, q_268_747, q_268_749, q_268_750, q_268_751, q_268_752, q_268_753, q_268_756, q_268_758, q_268_759, q_268_760, q_268_762, q_268_763, q_268_764, q_268_765, q_268_766, q_268_768, q_268_769, q_268_770, q_268_771, q_268_772, q_268_774, q_268_775, q_268_776, q_268_777, q_268_778, q_268_780, q_268_781, q_268_782, q_268_783, q_268_786, q_268_788, q_268_789, q_268_792, q_268_794, q_268_797, q_268_798, q_268_799, q_268_801, q_268_804, q_268_805, q_268_806, q_268_807, q_268_809, q_268_810, q_268_811, q_268_814, q_268_815, q_268_816, va_rf_s, bz_0, bz_1, bz_ok, bb_ok, Nat.add_assoc, w_lt, w_add, w_sub, w_mul, w_div, em_def, w_eq, w_inT, ↓ilt_t, ↓ilt_f, ↓ieq_t, ↓ieq_f, ntT, w_b, w_ix, kx_v, kx_n, kl_n, kl_i, kl_r, kl_o, inA_i, inA_s, inA_b, inA_z, inA_l, inA_0, inA_4, inA_5, inA_6, inA_7, inA_8, inA_9, inA_10, al_0, al_1, al_2, al_4, al_5, al_98, bsP_2, bsP_3, wr_same, wr_wr, wr_ne, up_same, up_ne, Nat.reduceAdd, Int.reduceAdd, Int.reduceSub, Int.reduceMul, Int.reduceLT, Int.reduceLE, Int.reduceEq, Int.reduceNeg, Int.reduceToNat, Nat.reduceLT, Nat.reduceLeDiff, Nat.reduceEqDiff, ↓reduceIte, true_and, and_true, not_true_eq_false, not_false_eq_true, eq_self, or_true, true_or, or_false, false_or, if_true, if_false, Int.toNat_natCast, w_ite, Nat.add_zero, reduceCtorEq, ne_eq, hm1, ho1, s153, e0, ez, lg_self]
    exact hQ'
  | inr E =>
    rw [hr] at hz hA
    have e0 := hA.2
    have tb := tc_b (two := true) (E := E)
    dsimp only at hz
    rw [← hz] at e0 tb
    simp (disch := omega) only [q_268_727, q_268_728, q_268_729, q_268_731, q_268_732, q_268_733, q_268_734, q_268_735, q_268_737, q_268_738, q_268_739, q_268_740, q_268_741, q_268_743, q_268_744, q_268_745, q_268_746, q_268_747, q_268_749, q_268_750, q_268_751, q_268_752, q_268_753, q_268_756, q_268_758, q_268_759, q_268_760, q_268_762, q_268_763, q_268_764, q_268_765, q_268_766, q_268_768, q_268_769, q_268_770, q_268_771, q_268_772, q_268_774, q_268_775, q_268_776, q_268_777, q_268_778, q_268_780, q_268_781, q_268_782, q_268_783, q_268_786, q_268_788, q_268_789, q_268_792, q_268_794, q_268_797, q_268_798, q_268_799, q_268_801, q_268_804, q_268_805, q_268_806, q_268_807, q_268_809, q_268_810, q_268_811, q_268_814, q_268_815, q_268_816, va_rf_s, bz_0, bz_1, bz_ok, bb_ok, Nat.add_assoc, w_lt, w_add, w_sub, w_mul, w_div, em_def, w_eq, w_inT, ↓ilt_t, ↓ilt_f, ↓ieq_t, ↓ieq_f, ntT, w_b, w_ix, kx_v, kx_n, kl_n, kl_i, kl_r, kl_o, inA_i, inA_s, inA_b, inA_z, inA_l, inA_0, inA_4, inA_5, inA_6, inA_7, inA_8, inA_9, inA_10, al_0, al_1, al_2, al_4, al_5, al_98, bsP_2, bsP_3, wr_same, wr_wr, wr_ne, up_same, up_ne, Nat.reduceAdd, Int.reduceAdd, Int.reduceSub, Int.reduceMul, Int.reduceLT, Int.reduceLE, Int.reduceEq, Int.reduceNeg, Int.reduceToNat, Nat.reduceLT, Nat.reduceLeDiff, Nat.reduceEqDiff, ↓reduceIte, true_and, and_true, not_true_eq_false, not_false_eq_true, eq_self, or_true, true_or, or_false, false_or, if_true, if_false, Int.toNat_natCast, w_ite, Nat.add_zero, reduceCtorEq, ne_eq, hm1, s153, e0]
    exact hQ'
theorem kd_11 (h : LB S I L R G c s s) (hf : few s) (hbc : b < c) (hb : Scr S I b n x) (hi : i + 6 ≤ n) (hn : n ≤ 3072) (hQ : KN S I G d c b i Q s) : XX (d + 80) 268 819 [some (.ref b), some (.ref c), some (.ref (c + 121)), some (.ref (c + 6799)), some (.int (w i)), o5, o6, o7] [] (mk S I L R G) Q := by
  have hc := h.1.1.1
  have hm := h.2.1.1.1
  have hb0 := hb.1
  have e1 : ((i : Int) + 1).toNat = i + 1 := by omega
  obtain ⟨v1, b1⟩ := hb.2 (i + 1) (by omega)
  have e2 : ((i : Int) + 2).toNat = i + 2 := by omega
  obtain ⟨v2, b2⟩ := hb.2 (i + 2) (by omega)
  simp (disch := omega) only [q_268_819, q_268_820, q_268_821, q_268_823, q_268_824, q_268_825, q_268_826, q_268_827, q_268_829, q_268_830, q_268_831, q_268_832, q_268_833, q_268_836, q_268_838, q_268_839, q_268_840, q_268_842, q_268_843, q_268_844, q_268_845, q_268_846, q_268_848, q_268_849, q_268_850, q_268_851, q_268_854, q_268_856, q_268_857, q_268_860, q_268_862, q_268_865, q_268_866, q_268_867, q_268_869, q_268_872, q_268_873, q_268_874, q_268_875, q_268_877, q_268_878, q_268_879, q_268_882, q_268_883, q_268_884, va_rf_s, bz_0, bz_1, bz_ok, bb_ok, Nat.add_assoc, w_lt, w_add, w_sub, w_mul, w_div, em_def, w_eq, w_inT, ↓ilt_t, ↓ilt_f, ↓ieq_t, ↓ieq_f, ntT, w_b, w_ix, kx_v, kx_n, kl_n, kl_i, kl_r, kl_o, inA_i, inA_s, inA_b, inA_z, inA_l, inA_0, inA_4, inA_5, inA_6, inA_7, inA_8, inA_9, inA_10, al_0, al_1, al_2, al_4, al_5, al_98, bsP_2, bsP_3, wr_same, wr_wr, wr_ne, up_same, up_ne, Nat.reduceAdd, Int.reduceAdd, Int.reduceSub, Int.reduceMul, Int.reduceLT, Int.reduceLE, Int.reduceEq, Int.reduceNeg, Int.reduceToNat, Nat.reduceLT, Nat.reduceLeDiff, Nat.reduceEqDiff, ↓reduceIte, true_and, and_true, not_true_eq_false, not_false_eq_true, eq_self, or_true, true_or, or_false, false_or, if_true, if_false, Int.toNat_natCast, w_ite, Nat.add_zero, reduceCtorEq, ne_eq, hc, hm, hb0, e1, v1, e2, v2]
  refine sp_248 h hf b1 b2 (fun S' I' L' R' G' z h' hL' hz => ?_)
  have hb1 : S' b = some (.inl (98, n)) := ((hL'.1 b hbc).1).trans hb.1
  have hI1 : I' b = I b := (hL'.1 b hbc).2
  have hm1 : S' (c + 121) = some (.inr 12) := h'.2.1.1.1
  have ho1 : S' (c + 6799) = some (.inl (1, 1)) := h'.2.2.1
  simp (disch := omega) only [q_268_819, q_268_820, q_268_821, q_268_823, q_268_824, q_268_825, q_268_826, q_268_827, q_268_829, q_268_830, q_268_831, q_268_832, q_268_833, q_268_836, q_268_838, q_268_839, q_268_840, q_268_842, q_268_843, q_268_844, q_268_845, q_268_846, q_268_848, q_268_849, q_268_850, q_268_851, q_268_854, q_268_856, q_268_857, q_268_860, q_268_862, q_268_865, q_268_866, q_268_867, q_268_869, q_268_872, q_268_873, q_268_874, q_268_875, q_268_877, q_268_878, q_268_879, q_268_882, q_268_883, q_268_884, va_rf_s, bz_0, bz_1, bz_ok, bb_ok, Nat.add_assoc, w_lt, w_add, w_sub, w_mul, w_div, em_def, w_eq, w_inT, ↓ilt_t, ↓ilt_f, ↓ieq_t, ↓ieq_f, ntT, w_b, w_ix, kx_v, kx_n, kl_n, kl_i, kl_r, kl_o, inA_i, inA_s, inA_b, inA_z, inA_l, inA_0, inA_4, inA_5, inA_6, inA_7, inA_8, inA_9, inA_10, al_0, al_1, al_2, al_4, al_5, al_98, bsP_2, bsP_3, wr_same, wr_wr, wr_ne, up_same, up_ne, Nat.reduceAdd, Int.reduceAdd, Int.reduceSub, Int.reduceMul, Int.reduceLT, Int.reduceLE, Int.reduceEq, Int.reduceNeg, Int.reduceToNat, Nat.reduceLT, Nat.reduceLeDiff, Nat.reduceEqDiff, ↓reduceIte, true_and, and_true, not_true_eq_false, not_false_eq_true, eq_self, or_true, true_or, or_false, false_or, if_true, if_false, Int.toNat_natCast, w_ite, Nat.add_zero, reduceCtorEq, ne_eq, hm1, hb1, hI1, e1, v1, e2, v2]
  refine sp_205 h'.2.1 hf b1 b2 (fun I2 L2 o hM hF hA => ?_)
  obtain ⟨h2, hL2⟩ := h'.mdl hM hF
  have hout : L2 (c + 6799) = L' (c + 6799) := (hF _ (Or.inr (by omega))).2
  have s153 := fun {d : Nat} {Q : XO → Hp → Prop} => sp_153 (d := d) (Q := Q) (I := I2) (L := L2) (R := R') (G := G') hm1
  have hQ' := hQ S' I2 L2 R' G' _ (some (.int (w z))) (some (.int o)) o7 h2 (hL'.trans hL2) rFits_g
  unfold MA at hA
  cases hr : (rFits s (x (i + 1)) (x (i + 2))).1 with
  | inl v =>
    rw [hr] at hz hA
    obtain ⟨rfl, ez⟩ := hz
    obtain ⟨rfl, e0⟩ := hA
    rw [← hout] at ez
    simp (disch := omega) only [q_268_819, q_268_820, q_268_821, q_268_823, q_268_824, q_268_825, q_268_826, q_268_827, q_268_829, q_268_830, q_268_831, q_268_832, q_268_833, q_268_836, q_268_838, q_268_839, q_268_840, q_268_842, q_268_843, q_268_844, q_268_845, q_268_846, q_268_848, q_268_849, q_268_850, q_268_851, q_268_854, q_268_856, q_268_857, q_268_860, q_268_862, q_268_865, q_268_866, q_268_867, q_268_869, q_268_872, q_268_873, q_268_874, q_268_875, q_268_877, q_268_878, q_268_879, q_268_882, q_268_883, q_268_884, va_rf_s, bz_0, bz_1, bz_ok, bb_ok, Nat.add_assoc, w_lt, w_add, w_sub, w_mul, w_div, em_def, w_eq, w_inT, ↓ilt_t, ↓ilt_f, ↓ieq_t, ↓ieq_f, ntT, w_b, w_ix, kx_v, kx_n, kl_n, kl_i, kl_r, kl_o, inA_i, inA_s, inA_b, inA_z, inA_l, inA_0, inA_4, inA_5, inA_6, inA_7, inA_8, inA_9, inA_10, al_0, al_1, al_2, al_4, al_5, al_98, bsP_2, bsP_3, wr_same, wr_wr, wr_ne, up_same, up_ne, Nat.reduceAdd, Int.reduceAdd, Int.reduceSub, Int.reduceMul, Int.reduceLT, Int.reduceLE, Int.reduceEq, Int.reduceNeg, Int.reduceToNat, Nat.reduceLT, Nat.reduceLeDiff, Nat.reduceEqDiff, ↓reduceIte, true_and, and_true, not_true_eq_false, not_false_eq_true, eq_self, or_true, true_or, or_false, false_or, if_true, if_false, Int.toNat_natCast, w_ite, Nat.add_zero, reduceCtorEq, ne_eq, hm1, ho1, s153, e0, ez, lg_self]
    exact hQ'
  | inr E =>
    rw [hr] at hz hA
    have e0 := hA.2
    have tb := tc_b (two := true) (E := E)
    dsimp only at hz
    rw [← hz] at e0 tb
    simp (disch := omega) only [q_268_819, q_268_820, q_268_821, q_268_823, q_268_824, q_268_825, q_268_826, q_268_827, q_268_829, q_268_830, q_268_831, q_268_832, q_268_833, q_268_836, q_268_838, q_268_839, q_268_840, q_268_842, q_268_843, q_268_844, q_268_845, q_268_846, q_268_848, q_268_849, q_268_850, q_268_851, q_268_854, q_268_856, q_268_857, q_268_860, q_268_862, q_268_865, q_268_866, q_268_867, q_268_869, q_268_872, q_268_873, q_268_874, q_268_875, q_268_877, q_268_878, q_268_879, q_268_882, q_268_883, q_268_884, va_rf_s, bz_0, bz_1, bz_ok, bb_ok, Nat.add_assoc, w_lt, w_add, w_sub, w_mul, w_div, em_def, w_eq, w_inT, ↓ilt_t, ↓ilt_f, ↓ieq_t, ↓ieq_f, ntT, w_b, w_ix, kx_v, kx_n, kl_n, kl_i, kl_r, kl_o, inA_i, inA_s, inA_b, inA_z, inA_l, inA_0, inA_4, inA_5, inA_6, inA_7, inA_8, inA_9, inA_10, al_0, al_1, al_2, al_4, al_5, al_98, bsP_2, bsP_3, wr_same, wr_wr, wr_ne, up_same, up_ne, Nat.reduceAdd, Int.reduceAdd, Int.reduceSub, Int.reduceMul, Int.reduceLT, Int.reduceLE, Int.reduceEq, Int.reduceNeg, Int.reduceToNat, Nat.reduceLT, Nat.reduceLeDiff, Nat.reduceEqDiff, ↓reduceIte, true_and, and_true, not_true_eq_false, not_false_eq_true, eq_self, or_true, true_or, or_false, false_or, if_true, if_false, Int.toNat_natCast, w_ite, Nat.add_zero, reduceCtorEq, ne_eq, hm1, s153, e0]
    exact hQ'
theorem kd_12 (h : LB S I L R G c s s) (hf : few s) (hbc : b < c) (hb : Scr S I b n x) (hi : i + 6 ≤ n) (hn : n ≤ 3072) (hQ : KN S I G d c b i Q s) : XX (d + 80) 268 887 [some (.ref b), some (.ref c), some (.ref (c + 121)), some (.ref (c + 6799)), some (.int (w i)), o5, o6, o7] [] (mk S I L R G) Q := by
  have hc := h.1.1.1
  have hm := h.2.1.1.1
  have hb0 := hb.1
  have e1 : ((i : Int) + 1).toNat = i + 1 := by omega
  obtain ⟨v1, b1⟩ := hb.2 (i + 1) (by omega)
  have e2 : ((i : Int) + 2).toNat = i + 2 := by omega
  obtain ⟨v2, b2⟩ := hb.2 (i + 2) (by omega)
  have e3 : ((i : Int) + 3).toNat = i + 3 := by omega
  obtain ⟨v3, b3⟩ := hb.2 (i + 3) (by omega)
  simp (disch := omega) only [q_268_887, q_268_888, q_268_889, q_268_891, q_268_892, q_268_893, q_268_894, q_268_895, q_268_897, q_268_898, q_268_899, q_268_900, q_268_901, q_268_903, q_268_904, q_268_905, q_268_906, q_268_907, q_268_910, q_268_912, q_268_913, q_268_914, q_268_916, q_268_917, q_268_918, q_268_919, q_268_920, q_268_922, q_268_923, q_268_924, q_268_925, q_268_926, q_268_928, q_268_929, q_268_930, q_268_931, q_268_934, q_268_936, q_268_937, q_268_940, q_268_942, q_268_945, q_268_946, q_268_947, q_268_949, q_268_952, q_268_953, q_268_954, q_268_955, q_268_957, q_268_958, q_268_959, q_268_962, q_268_963, q_268_964, va_rf_s, bz_0, bz_1, bz_ok, bb_ok, Nat.add_assoc, w_lt, w_add, w_sub, w_mul, w_div, em_def, w_eq, w_inT, ↓ilt_t, ↓ilt_f, ↓ieq_t, ↓ieq_f, ntT, w_b, w_ix, kx_v, kx_n, kl_n, kl_i, kl_r, kl_o, inA_i, inA_s, inA_b, inA_z, inA_l, inA_0, inA_4, inA_5, inA_6, inA_7, inA_8, inA_9, inA_10, al_0, al_1, al_2, al_4, al_5, al_98, bsP_2, bsP_3, wr_same, wr_wr, wr_ne, up_same, up_ne, Nat.reduceAdd, Int.reduceAdd, Int.reduceSub, Int.reduceMul, Int.reduceLT, Int.reduceLE, Int.reduceEq, Int.reduceNeg, Int.reduceToNat, Nat.reduceLT, Nat.reduceLeDiff, Nat.reduceEqDiff, ↓reduceIte, true_and, and_true, not_true_eq_false, not_false_eq_true, eq_self, or_true, true_or, or_false, false_or, if_true, if_false, Int.toNat_natCast, w_ite, Nat.add_zero, reduceCtorEq, ne_eq, hc, hm, hb0, e1, v1, e2, v2, e3, v3]
  refine sp_249 h hf b1 b2 b3 (fun S' I' L' R' G' z h' hL' hz => ?_)
  have hb1 : S' b = some (.inl (98, n)) := ((hL'.1 b hbc).1).trans hb.1
  have hI1 : I' b = I b := (hL'.1 b hbc).2
  have hm1 : S' (c + 121) = some (.inr 12) := h'.2.1.1.1
  have ho1 : S' (c + 6799) = some (.inl (1, 1)) := h'.2.2.1
  simp (disch := omega) only [q_268_887, q_268_888, q_268_889, q_268_891, q_268_892, q_268_893, q_268_894, q_268_895, q_268_897, q_268_898, q_268_899, q_268_900, q_268_901, q_268_903, q_268_904, q_268_905, q_268_906, q_268_907, q_268_910, q_268_912, q_268_913, q_268_914, q_268_916, q_268_917, q_268_918, q_268_919, q_268_920, q_268_922, q_268_923, q_268_924, q_268_925, q_268_926, q_268_928, q_268_929, q_268_930, q_268_931, q_268_934, q_268_936, q_268_937, q_268_940, q_268_942, q_268_945, q_268_946, q_268_947, q_268_949, q_268_952, q_268_953, q_268_954, q_268_955, q_268_957, q_268_958, q_268_959, q_268_962, q_268_963, q_268_964, va_rf_s, bz_0, bz_1, bz_ok, bb_ok, Nat.add_assoc, w_lt, w_add, w_sub, w_mul, w_div, em_def, w_eq, w_inT, ↓ilt_t, ↓ilt_f, ↓ieq_t, ↓ieq_f, ntT, w_b, w_ix, kx_v, kx_n, kl_n, kl_i, kl_r, kl_o, inA_i, inA_s, inA_b, inA_z, inA_l, inA_0, inA_4, inA_5, inA_6, inA_7, inA_8, inA_9, inA_10, al_0, al_1, al_2, al_4, al_5, al_98, bsP_2, bsP_3, wr_same, wr_wr, wr_ne, up_same, up_ne, Nat.reduceAdd, Int.reduceAdd, Int.reduceSub, Int.reduceMul, Int.reduceLT, Int.reduceLE, Int.reduceEq, Int.reduceNeg, Int.reduceToNat, Nat.reduceLT, Nat.reduceLeDiff, Nat.reduceEqDiff, ↓reduceIte, true_and, and_true, not_true_eq_false, not_false_eq_true, eq_self, or_true, true_or, or_false, false_or, if_true, if_false, Int.toNat_natCast, w_ite, Nat.add_zero, reduceCtorEq, ne_eq, hm1, hb1, hI1, e1, v1, e2, v2, e3, v3]
  refine sp_208 h'.2.1 hf b1 b2 b3 (fun I2 L2 o hM hF hA => ?_)
  obtain ⟨h2, hL2⟩ := h'.mdl hM hF
  have hout : L2 (c + 6799) = L' (c + 6799) := (hF _ (Or.inr (by omega))).2
  have s153 := fun {d : Nat} {Q : XO → Hp → Prop} => sp_153 (d := d) (Q := Q) (I := I2) (L := L2) (R := R') (G := G') hm1
  have hQ' := hQ S' I2 L2 R' G' _ (some (.int (w z))) (some (.int o)) o7 h2 (hL'.trans hL2) rLx_g
  unfold MA at hA
  cases hr : (rLx s (x (i + 1)) (x (i + 3)) 2 (fun rs => vSaid rs (x (i + 2)) (x (i + 3)))).1 with
  | inl v =>
    rw [hr] at hz hA
    obtain ⟨rfl, ez⟩ := hz
    obtain ⟨rfl, e0⟩ := hA
    rw [← hout] at ez
    simp (disch := omega) only [q_268_887, q_268_888, q_268_889, q_268_891, q_268_892, q_268_893, q_268_894, q_268_895, q_268_897, q_268_898, q_268_899, q_268_900, q_268_901, q_268_903, q_268_904, q_268_905, q_268_906, q_268_907, q_268_910, q_268_912, q_268_913, q_268_914, q_268_916, q_268_917, q_268_918, q_268_919, q_268_920, q_268_922, q_268_923, q_268_924, q_268_925, q_268_926, q_268_928, q_268_929, q_268_930, q_268_931, q_268_934, q_268_936, q_268_937, q_268_940, q_268_942, q_268_945, q_268_946, q_268_947, q_268_949, q_268_952, q_268_953, q_268_954, q_268_955, q_268_957, q_268_958, q_268_959, q_268_962, q_268_963, q_268_964, va_rf_s, bz_0, bz_1, bz_ok, bb_ok, Nat.add_assoc, w_lt, w_add, w_sub, w_mul, w_div, em_def, w_eq, w_inT, ↓ilt_t, ↓ilt_f, ↓ieq_t, ↓ieq_f, ntT, w_b, w_ix, kx_v, kx_n, kl_n, kl_i, kl_r, kl_o, inA_i, inA_s, inA_b, inA_z, inA_l, inA_0, inA_4, inA_5, inA_6, inA_7, inA_8, inA_9, inA_10, al_0, al_1, al_2, al_4, al_5, al_98, bsP_2, bsP_3, wr_same, wr_wr, wr_ne, up_same, up_ne, Nat.reduceAdd, Int.reduceAdd, Int.reduceSub, Int.reduceMul, Int.reduceLT, Int.reduceLE, Int.reduceEq, Int.reduceNeg, Int.reduceToNat, Nat.reduceLT, Nat.reduceLeDiff, Nat.reduceEqDiff, ↓reduceIte, true_and, and_true, not_true_eq_false, not_false_eq_true, eq_self, or_true, true_or, or_false, false_or, if_true, if_false, Int.toNat_natCast, w_ite, Nat.add_zero, reduceCtorEq, ne_eq, hm1, ho1, s153, e0, ez, lg_self]
    exact hQ'
  | inr E =>
    rw [hr] at hz hA
    have e0 := hA.2
    have tb := tc_b (two := true) (E := E)
    dsimp only at hz
    rw [← hz] at e0 tb
    simp (disch := omega) only [q_268_887, q_268_888, q_268_889, q_268_891, q_268_892, q_268_893, q_268_894, q_268_895, q_268_897, q_268_898, q_268_899, q_268_900, q_268_901, q_268_903, q_268_904, q_268_905, q_268_906, q_268_907, q_268_910, q_268_912, q_268_913, q_268_914, q_268_916, q_268_917, q_268_918, q_268_919, q_268_920, q_268_922, q_268_923, q_268_924, q_268_925, q_268_926, q_268_928, q_268_929, q_268_930, q_268_931, q_268_934, q_268_936, q_268_937, q_268_940, q_268_942, q_268_945, q_268_946, q_268_947, q_268_949, q_268_952, q_268_953, q_268_954, q_268_955, q_268_957, q_268_958, q_268_959, q_268_962, q_268_963, q_268_964, va_rf_s, bz_0, bz_1, bz_ok, bb_ok, Nat.add_assoc, w_lt, w_add, w_sub, w_mul, w_div, em_def, w_eq, w_inT, ↓ilt_t, ↓ilt_f, ↓ieq_t, ↓ieq_f, ntT, w_b, w_ix, kx_v, kx_n, kl_n, kl_i, kl_r, kl_o, inA_i, inA_s, inA_b, inA_z, inA_l, inA_0, inA_4, inA_5, inA_6, inA_7, inA_8, inA_9, inA_10, al_0, al_1, al_2, al_4, al_5, al_98, bsP_2, bsP_3, wr_same, wr_wr, wr_ne, up_same, up_ne, Nat.reduceAdd, Int.reduceAdd, Int.reduceSub, Int.reduceMul, Int.reduceLT, Int.reduceLE, Int.reduceEq, Int.reduceNeg, Int.reduceToNat, Nat.reduceLT, Nat.reduceLeDiff, Nat.reduceEqDiff, ↓reduceIte, true_and, and_true, not_true_eq_false, not_false_eq_true, eq_self, or_true, true_or, or_false, false_or, if_true, if_false, Int.toNat_natCast, w_ite, Nat.add_zero, reduceCtorEq, ne_eq, hm1, s153, e0]
    exact hQ'
theorem kd_13 (h : LB S I L R G c s s) (hf : few s) (hbc : b < c) (hb : Scr S I b n x) (hi : i + 6 ≤ n) (hn : n ≤ 3072) (hQ : KN S I G d c b i Q s) : XX (d + 80) 268 967 [some (.ref b), some (.ref c), some (.ref (c + 121)), some (.ref (c + 6799)), some (.int (w i)), o5, o6, o7] [] (mk S I L R G) Q := by
  have hc := h.1.1.1
  have hm := h.2.1.1.1
  have hb0 := hb.1
  have e1 : ((i : Int) + 1).toNat = i + 1 := by omega
  obtain ⟨v1, b1⟩ := hb.2 (i + 1) (by omega)
  have e2 : ((i : Int) + 2).toNat = i + 2 := by omega
  obtain ⟨v2, b2⟩ := hb.2 (i + 2) (by omega)
  have e3 : ((i : Int) + 3).toNat = i + 3 := by omega
  obtain ⟨v3, b3⟩ := hb.2 (i + 3) (by omega)
  simp (disch := omega) only [q_268_967, q_268_968, q_268_969, q_268_971, q_268_972, q_268_973, q_268_974, q_268_975, q_268_977, q_268_978, q_268_979, q_268_980, q_268_981, q_268_983, q_268_984, q_268_985, q_268_986, q_268_987, q_268_990, q_268_992, q_268_993, q_268_994, q_268_996, q_268_997, q_268_998, q_268_999, q_268_1000, q_268_1002, q_268_1003, q_268_1004, q_268_1005, q_268_1006, q_268_1008, q_268_1009, q_268_1010, q_268_1011, q_268_1014, q_268_1016, q_268_1017, q_268_1020, q_268_1022, q_268_1025, q_268_1026, q_268_1027, q_268_1029, q_268_1032, q_268_1033, q_268_1034, q_268_1035, q_268_1037, q_268_1038, q_268_1039, q_268_1042, q_268_1043, q_268_1044, va_rf_s, bz_0, bz_1, bz_ok, bb_ok, Nat.add_assoc, w_lt, w_add, w_sub, w_mul, w_div, em_def, w_eq, w_inT, ↓ilt_t, ↓ilt_f, ↓ieq_t, ↓ieq_f, ntT, w_b, w_ix, kx_v, kx_n, kl_n, kl_i, kl_r, kl_o, inA_i, inA_s, inA_b, inA_z, inA_l, inA_0, inA_4, inA_5, inA_6, inA_7, inA_8, inA_9, inA_10, al_0, al_1, al_2, al_4, al_5, al_98, bsP_2, bsP_3, wr_same, wr_wr, wr_ne, up_same, up_ne, Nat.reduceAdd, Int.reduceAdd, Int.reduceSub, Int.reduceMul, Int.reduceLT, Int.reduceLE, Int.reduceEq, Int.reduceNeg, Int.reduceToNat, Nat.reduceLT, Nat.reduceLeDiff, Nat.reduceEqDiff, ↓reduceIte, true_and, and_true, not_true_eq_false, not_false_eq_true, eq_self, or_true, true_or, or_false, false_or, if_true, if_false, Int.toNat_natCast, w_ite, Nat.add_zero, reduceCtorEq, ne_eq, hc, hm, hb0, e1, v1, e2, v2, e3, v3]
  refine sp_250 h hf b1 b2 b3 (fun S' I' L' R' G' z h' hL' hz => ?_)
  have hb1 : S' b = some (.inl (98, n)) := ((hL'.1 b hbc).1).trans hb.1
  have hI1 : I' b = I b := (hL'.1 b hbc).2
  have hm1 : S' (c + 121) = some (.inr 12) := h'.2.1.1.1
  have ho1 : S' (c + 6799) = some (.inl (1, 1)) := h'.2.2.1
  simp (disch := omega) only [q_268_967, q_268_968, q_268_969, q_268_971, q_268_972, q_268_973, q_268_974, q_268_975, q_268_977, q_268_978, q_268_979, q_268_980, q_268_981, q_268_983, q_268_984, q_268_985, q_268_986, q_268_987, q_268_990, q_268_992, q_268_993, q_268_994, q_268_996, q_268_997, q_268_998, q_268_999, q_268_1000, q_268_1002, q_268_1003, q_268_1004, q_268_1005, q_268_1006, q_268_1008, q_268_1009, q_268_1010, q_268_1011, q_268_1014, q_268_1016, q_268_1017, q_268_1020, q_268_1022, q_268_1025, q_268_1026, q_268_1027, q_268_1029, q_268_1032, q_268_1033, q_268_1034, q_268_1035, q_268_1037, q_268_1038, q_268_1039, q_268_1042, q_268_1043, q_268_1044, va_rf_s, bz_0, bz_1, bz_ok, bb_ok, Nat.add_assoc, w_lt, w_add, w_sub, w_mul, w_div, em_def, w_eq, w_inT, ↓ilt_t, ↓ilt_f, ↓ieq_t, ↓ieq_f, ntT, w_b, w_ix, kx_v, kx_n, kl_n, kl_i, kl_r, kl_o, inA_i, inA_s, inA_b, inA_z, inA_l, inA_0, inA_4, inA_5, inA_6, inA_7, inA_8, inA_9, inA_10, al_0, al_1, al_2, al_4, al_5, al_98, bsP_2, bsP_3, wr_same, wr_wr, wr_ne, up_same, up_ne, Nat.reduceAdd, Int.reduceAdd, Int.reduceSub, Int.reduceMul, Int.reduceLT, Int.reduceLE, Int.reduceEq, Int.reduceNeg, Int.reduceToNat, Nat.reduceLT, Nat.reduceLeDiff, Nat.reduceEqDiff, ↓reduceIte, true_and, and_true, not_true_eq_false, not_false_eq_true, eq_self, or_true, true_or, or_false, false_or, if_true, if_false, Int.toNat_natCast, w_ite, Nat.add_zero, reduceCtorEq, ne_eq, hm1, hb1, hI1, e1, v1, e2, v2, e3, v3]
  refine sp_209 h'.2.1 hf b1 b2 b3 (fun I2 L2 o hM hF hA => ?_)
  obtain ⟨h2, hL2⟩ := h'.mdl hM hF
  have hout : L2 (c + 6799) = L' (c + 6799) := (hF _ (Or.inr (by omega))).2
  have s153 := fun {d : Nat} {Q : XO → Hp → Prop} => sp_153 (d := d) (Q := Q) (I := I2) (L := L2) (R := R') (G := G') hm1
  have hQ' := hQ S' I2 L2 R' G' _ (some (.int (w z))) (some (.int o)) o7 h2 (hL'.trans hL2) rLg_g
  unfold MA at hA
  cases hr : (rLg s (x (i + 1)) (fun rs => vAt rs (x (i + 2)) (x (i + 3)))).1 with
  | inl v =>
    rw [hr] at hz hA
    obtain ⟨rfl, ez⟩ := hz
    obtain ⟨rfl, e0⟩ := hA
    rw [← hout] at ez
    simp (disch := omega) only [q_268_967, q_268_968, q_268_969, q_268_971, q_268_972, q_268_973, q_268_974, q_268_975, q_268_977, q_268_978, q_268_979, q_268_980, q_268_981, q_268_983, q_268_984, q_268_985, q_268_986, q_268_987, q_268_990, q_268_992, q_268_993, q_268_994, q_268_996, q_268_997, q_268_998, q_268_999, q_268_1000, q_268_1002, q_268_1003, q_268_1004, q_268_1005, q_268_1006, q_268_1008, q_268_1009, q_268_1010, q_268_1011, q_268_1014, q_268_1016, q_268_1017, q_268_1020, q_268_1022, q_268_1025, q_268_1026, q_268_1027, q_268_1029, q_268_1032, q_268_1033, q_268_1034, q_268_1035, q_268_1037, q_268_1038, q_268_1039, q_268_1042, q_268_1043, q_268_1044, va_rf_s, bz_0, bz_1, bz_ok, bb_ok, Nat.add_assoc, w_lt, w_add, w_sub, w_mul, w_div, em_def, w_eq, w_inT, ↓ilt_t, ↓ilt_f, ↓ieq_t, ↓ieq_f, ntT, w_b, w_ix, kx_v, kx_n, kl_n, kl_i, kl_r, kl_o, inA_i, inA_s, inA_b, inA_z, inA_l, inA_0, inA_4, inA_5, inA_6, inA_7, inA_8, inA_9, inA_10, al_0, al_1, al_2, al_4, al_5, al_98, bsP_2, bsP_3, wr_same, wr_wr, wr_ne, up_same, up_ne, Nat.reduceAdd, Int.reduceAdd, Int.reduceSub, Int.reduceMul, Int.reduceLT, Int.reduceLE, Int.reduceEq, Int.reduceNeg, Int.reduceToNat, Nat.reduceLT, Nat.reduceLeDiff, Nat.reduceEqDiff, ↓reduceIte, true_and, and_true, not_true_eq_false, not_false_eq_true, eq_self, or_true, true_or, or_false, false_or, if_true, if_false, Int.toNat_natCast, w_ite, Nat.add_zero, reduceCtorEq, ne_eq, hm1, ho1, s153, e0, ez, lg_self]
    exact hQ'
  | inr E =>
    rw [hr] at hz hA
    have e0 := hA.2
    have tb := tc_b (two := false) (E := E)
    dsimp only at hz
    rw [← hz] at e0 tb
    simp (disch := omega) only [q_268_967, q_268_968, q_268_969, q_268_971, q_268_972, q_268_973, q_268_974, q_268_975, q_268_977, q_268_978, q_268_979, q_268_980, q_268_981, q_268_983, q_268_984, q_268_985, q_268_986, q_268_987, q_268_990, q_268_992, q_268_993, q_268_994, q_268_996, q_268_997, q_268_998, q_268_999, q_268_1000, q_268_1002, q_268_1003, q_268_1004, q_268_1005, q_268_1006, q_268_1008, q_268_1009, q_268_1010, q_268_1011, q_268_1014, q_268_1016, q_268_1017, q_268_1020, q_268_1022, q_268_1025, q_268_1026, q_268_1027, q_268_1029, q_268_1032, q_268_1033, q_268_1034, q_268_1035, q_268_1037, q_268_1038, q_268_1039, q_268_1042, q_268_1043, q_268_1044, va_rf_s, bz_0, bz_1, bz_ok, bb_ok, Nat.add_assoc, w_lt, w_add, w_sub, w_mul, w_div, em_def, w_eq, w_inT, ↓ilt_t, ↓ilt_f, ↓ieq_t, ↓ieq_f, ntT, w_b, w_ix, kx_v, kx_n, kl_n, kl_i, kl_r, kl_o, inA_i, inA_s, inA_b, inA_z, inA_l, inA_0, inA_4, inA_5, inA_6, inA_7, inA_8, inA_9, inA_10, al_0, al_1, al_2, al_4, al_5, al_98, bsP_2, bsP_3, wr_same, wr_wr, wr_ne, up_same, up_ne, Nat.reduceAdd, Int.reduceAdd, Int.reduceSub, Int.reduceMul, Int.reduceLT, Int.reduceLE, Int.reduceEq, Int.reduceNeg, Int.reduceToNat, Nat.reduceLT, Nat.reduceLeDiff, Nat.reduceEqDiff, ↓reduceIte, true_and, and_true, not_true_eq_false, not_false_eq_true, eq_self, or_true, true_or, or_false, false_or, if_true, if_false, Int.toNat_natCast, w_ite, Nat.add_zero, reduceCtorEq, ne_eq, hm1, s153, e0]
    exact hQ'
theorem kd_14 (h : LB S I L R G c s s) (hf : few s) (hbc : b < c) (hb : Scr S I b n x) (hi : i + 6 ≤ n) (hn : n ≤ 3072) (hQ : KN S I G d c b i Q s) : XX (d + 80) 268 1047 [some (.ref b), some (.ref c), some (.ref (c + 121)), some (.ref (c + 6799)), some (.int (w i)), o5, o6, o7] [] (mk S I L R G) Q := by
  have hc := h.1.1.1
  have hm := h.2.1.1.1
  have hb0 := hb.1
  have e1 : ((i : Int) + 1).toNat = i + 1 := by omega
  obtain ⟨v1, b1⟩ := hb.2 (i + 1) (by omega)
  have e2 : ((i : Int) + 2).toNat = i + 2 := by omega
  obtain ⟨v2, b2⟩ := hb.2 (i + 2) (by omega)
  simp (disch := omega) only [q_268_1047, q_268_1048, q_268_1049, q_268_1051, q_268_1052, q_268_1053, q_268_1054, q_268_1055, q_268_1057, q_268_1058, q_268_1059, q_268_1060, q_268_1061, q_268_1064, q_268_1066, q_268_1067, q_268_1068, q_268_1070, q_268_1071, q_268_1072, q_268_1073, q_268_1074, q_268_1076, q_268_1077, q_268_1078, q_268_1079, q_268_1082, q_268_1084, q_268_1085, q_268_1088, q_268_1090, q_268_1093, q_268_1094, q_268_1095, q_268_1097, q_268_1100, q_268_1101, q_268_1102, q_268_1103, q_268_1105, q_268_1106, q_268_1107, q_268_1110, q_268_1111, q_268_1112, va_rf_s, bz_0, bz_1, bz_ok, bb_ok, Nat.add_assoc, w_lt, w_add, w_sub, w_mul, w_div, em_def, w_eq, w_inT, ↓ilt_t, ↓ilt_f, ↓ieq_t, ↓ieq_f, ntT, w_b, w_ix, kx_v, kx_n, kl_n, kl_i, kl_r, kl_o, inA_i, inA_s, inA_b, inA_z, inA_l, inA_0, inA_4, inA_5, inA_6, inA_7, inA_8, inA_9, inA_10, al_0, al_1, al_2, al_4, al_5, al_98, bsP_2, bsP_3, wr_same, wr_wr, wr_ne, up_same, up_ne, Nat.reduceAdd, Int.reduceAdd, Int.reduceSub, Int.reduceMul, Int.reduceLT, Int.reduceLE, Int.reduceEq, Int.reduceNeg, Int.reduceToNat, Nat.reduceLT, Nat.reduceLeDiff, Nat.reduceEqDiff, ↓reduceIte, true_and, and_true, not_true_eq_false, not_false_eq_true, eq_self, or_true, true_or, or_false, false_or, if_true, if_false, Int.toNat_natCast, w_ite, Nat.add_zero, reduceCtorEq, ne_eq, hc, hm, hb0, e1, v1, e2, v2]
  refine sp_251 h hf b1 b2 (fun S' I' L' R' G' z h' hL' hz => ?_)
  have hb1 : S' b = some (.inl (98, n)) := ((hL'.1 b hbc).1).trans hb.1
  have hI1 : I' b = I b := (hL'.1 b hbc).2
  have hm1 : S' (c + 121) = some (.inr 12) := h'.2.1.1.1
  have ho1 : S' (c + 6799) = some (.inl (1, 1)) := h'.2.2.1
  simp (disch := omega) only [q_268_1047, q_268_1048, q_268_1049, q_268_1051, q_268_1052, q_268_1053, q_268_1054, q_268_1055, q_268_1057, q_268_1058, q_268_1059, q_268_1060, q_268_1061, q_268_1064, q_268_1066, q_268_1067, q_268_1068, q_268_1070, q_268_1071, q_268_1072, q_268_1073, q_268_1074, q_268_1076, q_268_1077, q_268_1078, q_268_1079, q_268_1082, q_268_1084, q_268_1085, q_268_1088, q_268_1090, q_268_1093, q_268_1094, q_268_1095, q_268_1097, q_268_1100, q_268_1101, q_268_1102, q_268_1103, q_268_1105, q_268_1106, q_268_1107, q_268_1110, q_268_1111, q_268_1112, va_rf_s, bz_0, bz_1, bz_ok, bb_ok, Nat.add_assoc, w_lt, w_add, w_sub, w_mul, w_div, em_def, w_eq, w_inT, ↓ilt_t, ↓ilt_f, ↓ieq_t, ↓ieq_f, ntT, w_b, w_ix, kx_v, kx_n, kl_n, kl_i, kl_r, kl_o, inA_i, inA_s, inA_b, inA_z, inA_l, inA_0, inA_4, inA_5, inA_6, inA_7, inA_8, inA_9, inA_10, al_0, al_1, al_2, al_4, al_5, al_98, bsP_2, bsP_3, wr_same, wr_wr, wr_ne, up_same, up_ne, Nat.reduceAdd, Int.reduceAdd, Int.reduceSub, Int.reduceMul, Int.reduceLT, Int.reduceLE, Int.reduceEq, Int.reduceNeg, Int.reduceToNat, Nat.reduceLT, Nat.reduceLeDiff, Nat.reduceEqDiff, ↓reduceIte, true_and, and_true, not_true_eq_false, not_false_eq_true, eq_self, or_true, true_or, or_false, false_or, if_true, if_false, Int.toNat_natCast, w_ite, Nat.add_zero, reduceCtorEq, ne_eq, hm1, hb1, hI1, e1, v1, e2, v2]
  refine sp_210 h'.2.1 hf b1 b2 (fun I2 L2 o hM hF hA => ?_)
  obtain ⟨h2, hL2⟩ := h'.mdl hM hF
  have hout : L2 (c + 6799) = L' (c + 6799) := (hF _ (Or.inr (by omega))).2
  have s153 := fun {d : Nat} {Q : XO → Hp → Prop} => sp_153 (d := d) (Q := Q) (I := I2) (L := L2) (R := R') (G := G') hm1
  have hQ' := hQ S' I2 L2 R' G' _ (some (.int (w z))) (some (.int o)) o7 h2 (hL'.trans hL2) rLg_g
  unfold MA at hA
  cases hr : (rLg s (x (i + 1)) (fun rs => vAsked rs (x (i + 2)))).1 with
  | inl v =>
    rw [hr] at hz hA
    obtain ⟨rfl, ez⟩ := hz
    obtain ⟨rfl, e0⟩ := hA
    rw [← hout] at ez
    simp (disch := omega) only [q_268_1047, q_268_1048, q_268_1049, q_268_1051, q_268_1052, q_268_1053, q_268_1054, q_268_1055, q_268_1057, q_268_1058, q_268_1059, q_268_1060, q_268_1061, q_268_1064, q_268_1066, q_268_1067, q_268_1068, q_268_1070, q_268_1071, q_268_1072, q_268_1073, q_268_1074, q_268_1076, q_268_1077, q_268_1078, q_268_1079, q_268_1082, q_268_1084, q_268_1085, q_268_1088, q_268_1090, q_268_1093, q_268_1094, q_268_1095, q_268_1097, q_268_1100, q_268_1101, q_268_1102, q_268_1103, q_268_1105, q_268_1106, q_268_1107, q_268_1110, q_268_1111, q_268_1112, va_rf_s, bz_0, bz_1, bz_ok, bb_ok, Nat.add_assoc, w_lt, w_add, w_sub, w_mul, w_div, em_def, w_eq, w_inT, ↓ilt_t, ↓ilt_f, ↓ieq_t, ↓ieq_f, ntT, w_b, w_ix, kx_v, kx_n, kl_n, kl_i, kl_r, kl_o, inA_i, inA_s, inA_b, inA_z, inA_l, inA_0, inA_4, inA_5, inA_6, inA_7, inA_8, inA_9, inA_10, al_0, al_1, al_2, al_4, al_5, al_98, bsP_2, bsP_3, wr_same, wr_wr, wr_ne, up_same, up_ne, Nat.reduceAdd, Int.reduceAdd, Int.reduceSub, Int.reduceMul, Int.reduceLT, Int.reduceLE, Int.reduceEq, Int.reduceNeg, Int.reduceToNat, Nat.reduceLT, Nat.reduceLeDiff, Nat.reduceEqDiff, ↓reduceIte, true_and, and_true, not_true_eq_false, not_false_eq_true, eq_self, or_true, true_or, or_false, false_or, if_true, if_false, Int.toNat_natCast, w_ite, Nat.add_zero, reduceCtorEq, ne_eq, hm1, ho1, s153, e0, ez, lg_self]
    exact hQ'
  | inr E =>
    rw [hr] at hz hA
    have e0 := hA.2
    have tb := tc_b (two := false) (E := E)
    dsimp only at hz
    rw [← hz] at e0 tb
    simp (disch := omega) only [q_268_1047, q_268_1048, q_268_1049, q_268_1051, q_268_1052, q_268_1053, q_268_1054, q_268_1055, q_268_1057, q_268_1058, q_268_1059, q_268_1060, q_268_1061, q_268_1064, q_268_1066, q_268_1067, q_268_1068, q_268_1070, q_268_1071, q_268_1072, q_268_1073, q_268_1074, q_268_1076, q_268_1077, q_268_1078, q_268_1079, q_268_1082, q_268_1084, q_268_1085, q_268_1088, q_268_1090, q_268_1093, q_268_1094, q_268_1095, q_268_1097, q_268_1100, q_268_1101, q_268_1102, q_268_1103, q_268_1105, q_268_1106, q_268_1107, q_268_1110, q_268_1111, q_268_1112, va_rf_s, bz_0, bz_1, bz_ok, bb_ok, Nat.add_assoc, w_lt, w_add, w_sub, w_mul, w_div, em_def, w_eq, w_inT, ↓ilt_t, ↓ilt_f, ↓ieq_t, ↓ieq_f, ntT, w_b, w_ix, kx_v, kx_n, kl_n, kl_i, kl_r, kl_o, inA_i, inA_s, inA_b, inA_z, inA_l, inA_0, inA_4, inA_5, inA_6, inA_7, inA_8, inA_9, inA_10, al_0, al_1, al_2, al_4, al_5, al_98, bsP_2, bsP_3, wr_same, wr_wr, wr_ne, up_same, up_ne, Nat.reduceAdd, Int.reduceAdd, Int.reduceSub, Int.reduceMul, Int.reduceLT, Int.reduceLE, Int.reduceEq, Int.reduceNeg, Int.reduceToNat, Nat.reduceLT, Nat.reduceLeDiff, Nat.reduceEqDiff, ↓reduceIte, true_and, and_true, not_true_eq_false, not_false_eq_true, eq_self, or_true, true_or, or_false, false_or, if_true, if_false, Int.toNat_natCast, w_ite, Nat.add_zero, reduceCtorEq, ne_eq, hm1, s153, e0]
    exact hQ'
theorem kd_15 (h : LB S I L R G c s s) (hf : few s) (hbc : b < c) (hb : Scr S I b n x) (hi : i + 6 ≤ n) (hn : n ≤ 3072) (hQ : KN S I G d c b i Q s) : XX (d + 80) 268 1115 [some (.ref b), some (.ref c), some (.ref (c + 121)), some (.ref (c + 6799)), some (.int (w i)), o5, o6, o7] [] (mk S I L R G) Q := by
  have hc := h.1.1.1
  have hm := h.2.1.1.1
  have hb0 := hb.1
  have e1 : ((i : Int) + 1).toNat = i + 1 := by omega
  obtain ⟨v1, b1⟩ := hb.2 (i + 1) (by omega)
  have e2 : ((i : Int) + 2).toNat = i + 2 := by omega
  obtain ⟨v2, b2⟩ := hb.2 (i + 2) (by omega)
  simp (disch := omega) only [q_268_1115, q_268_1116, q_268_1117, q_268_1119, q_268_1120, q_268_1121, q_268_1122, q_268_1123, q_268_1125, q_268_1126, q_268_1127, q_268_1128, q_268_1129, q_268_1132, q_268_1134, q_268_1135, q_268_1136, q_268_1138, q_268_1139, q_268_1140, q_268_1141, q_268_1142, q_268_1144, q_268_1145, q_268_1146, q_268_1147, q_268_1150, q_268_1152, q_268_1153, q_268_1156, q_268_1158, q_268_1161, q_268_1162, q_268_1163, q_268_1165, q_268_1168, q_268_1169, q_268_1170, q_268_1171, q_268_1173, q_268_1174, q_268_1175, q_268_1178, q_268_1179, q_268_1180, va_rf_s, bz_0, bz_1, bz_ok, bb_ok, Nat.add_assoc, w_lt, w_add, w_sub, w_mul, w_div, em_def, w_eq, w_inT, ↓ilt_t, ↓ilt_f, ↓ieq_t, ↓ieq_f, ntT, w_b, w_ix, kx_v, kx_n, kl_n, kl_i, kl_r, kl_o, inA_i, inA_s, inA_b, inA_z, inA_l, inA_0, inA_4, inA_5, inA_6, inA_7, inA_8, inA_9, inA_10, al_0, al_1, al_2, al_4, al_5, al_98, bsP_2, bsP_3, wr_same, wr_wr, wr_ne, up_same, up_ne, Nat.reduceAdd, Int.reduceAdd, Int.reduceSub, Int.reduceMul, Int.reduceLT, Int.reduceLE, Int.reduceEq, Int.reduceNeg, Int.reduceToNat, Nat.reduceLT, Nat.reduceLeDiff, Nat.reduceEqDiff, ↓reduceIte, true_and, and_true, not_true_eq_false, not_false_eq_true, eq_self, or_true, true_or, or_false, false_or, if_true, if_false, Int.toNat_natCast, w_ite, Nat.add_zero, reduceCtorEq, ne_eq, hc, hm, hb0, e1, v1, e2, v2]
  refine sp_252 h hf b1 b2 (fun S' I' L' R' G' z h' hL' hz => ?_)
  have hb1 : S' b = some (.inl (98, n)) := ((hL'.1 b hbc).1).trans hb.1
  have hI1 : I' b = I b := (hL'.1 b hbc).2
  have hm1 : S' (c + 121) = some (.inr 12) := h'.2.1.1.1
  have ho1 : S' (c + 6799) = some (.inl (1, 1)) := h'.2.2.1
  simp (disch := omega) only [q_268_1115, q_268_1116, q_268_1117, q_268_1119, q_268_1120, q_268_1121, q_268_1122, q_268_1123, q_268_1125, q_268_1126, q_268_1127, q_268_1128, q_268_1129, q_268_1132, q_268_1134, q_268_1135, q_268_1136, q_268_1138, q_268_1139, q_268_1140, q_268_1141, q_268_1142, q_268_1144, q_268_1145, q_268_1146, q_268_1147, q_268_1150, q_268_1152, q_268_1153, q_268_1156, q_268_1158, q_268_1161, q_268_1162, q_268_1163, q_268_1165, q_268_1168, q_268_1169, q_268_1170, q_268_1171, q_268_1173, q_268_1174, q_268_1175, q_268_1178, q_268_1179, q_268_1180, va_rf_s, bz_0, bz_1, bz_ok, bb_ok, Nat.add_assoc, w_lt, w_add, w_sub, w_mul, w_div, em_def, w_eq, w_inT, ↓ilt_t, ↓ilt_f, ↓ieq_t, ↓ieq_f, ntT, w_b, w_ix, kx_v, kx_n, kl_n, kl_i, kl_r, kl_o, inA_i, inA_s, inA_b, inA_z, inA_l, inA_0, inA_4, inA_5, inA_6, inA_7, inA_8, inA_9, inA_10, al_0, al_1, al_2, al_4, al_5, al_98, bsP_2, bsP_3, wr_same, wr_wr, wr_ne, up_same, up_ne, Nat.reduceAdd, Int.reduceAdd, Int.reduceSub, Int.reduceMul, Int.reduceLT, Int.reduceLE, Int.reduceEq, Int.reduceNeg, Int.reduceToNat, Nat.reduceLT, Nat.reduceLeDiff, Nat.reduceEqDiff, ↓reduceIte, true_and, and_true, not_true_eq_false, not_false_eq_true, eq_self, or_true, true_or, or_false, false_or, if_true, if_false, Int.toNat_natCast, w_ite, Nat.add_zero, reduceCtorEq, ne_eq, hm1, hb1, hI1, e1, v1, e2, v2]
  refine sp_211 h'.2.1 hf b1 b2 (fun I2 L2 o hM hF hA => ?_)
  obtain ⟨h2, hL2⟩ := h'.mdl hM hF
  have hout : L2 (c + 6799) = L' (c + 6799) := (hF _ (Or.inr (by omega))).2
  have s153 := fun {d : Nat} {Q : XO → Hp → Prop} => sp_153 (d := d) (Q := Q) (I := I2) (L := L2) (R := R') (G := G') hm1
  have hQ' := hQ S' I2 L2 R' G' _ (some (.int (w z))) (some (.int o)) o7 h2 (hL'.trans hL2) rLg_g
  unfold MA at hA
  cases hr : (rLg s (x (i + 1)) (fun rs => vCauses rs (x (i + 2)))).1 with
  | inl v =>
    rw [hr] at hz hA
    obtain ⟨rfl, ez⟩ := hz
    obtain ⟨rfl, e0⟩ := hA
    rw [← hout] at ez
    simp (disch := omega) only [q_268_1115, q_268_1116, q_268_1117, q_268_1119, q_268_1120, q_268_1121, q_268_1122, q_268_1123, q_268_1125, q_268_1126, q_268_1127, q_268_1128, q_268_1129, q_268_1132, q_268_1134, q_268_1135, q_268_1136, q_268_1138, q_268_1139, q_268_1140, q_268_1141, q_268_1142, q_268_1144, q_268_1145, q_268_1146, q_268_1147, q_268_1150, q_268_1152, q_268_1153, q_268_1156, q_268_1158, q_268_1161, q_268_1162, q_268_1163, q_268_1165, q_268_1168, q_268_1169, q_268_1170, q_268_1171, q_268_1173, q_268_1174, q_268_1175, q_268_1178, q_268_1179, q_268_1180, va_rf_s, bz_0, bz_1, bz_ok, bb_ok, Nat.add_assoc, w_lt, w_add, w_sub, w_mul, w_div, em_def, w_eq, w_inT, ↓ilt_t, ↓ilt_f, ↓ieq_t, ↓ieq_f, ntT, w_b, w_ix, kx_v, kx_n, kl_n, kl_i, kl_r, kl_o, inA_i, inA_s, inA_b, inA_z, inA_l, inA_0, inA_4, inA_5, inA_6, inA_7, inA_8, inA_9, inA_10, al_0, al_1, al_2, al_4, al_5, al_98, bsP_2, bsP_3, wr_same, wr_wr, wr_ne, up_same, up_ne, Nat.reduceAdd, Int.reduceAdd, Int.reduceSub, Int.reduceMul, Int.reduceLT, Int.reduceLE, Int.reduceEq, Int.reduceNeg, Int.reduceToNat, Nat.reduceLT, Nat.reduceLeDiff, Nat.reduceEqDiff, ↓reduceIte, true_and, and_true, not_true_eq_false, not_false_eq_true, eq_self, or_true, true_or, or_false, false_or, if_true, if_false, Int.toNat_natCast, w_ite, Nat.add_zero, reduceCtorEq, ne_eq, hm1, ho1, s153, e0, ez, lg_self]
    exact hQ'
  | inr E =>
    rw [hr] at hz hA
    have e0 := hA.2
    have tb := tc_b (two := false) (E := E)
    dsimp only at hz
    rw [← hz] at e0 tb
    simp (disch := omega) only [q_268_1115, q_268_1116, q_268_1117, q_268_1119, q_268_1120, q_268_1121, q_268_1122, q_268_1123, q_268_1125, q_268_1126, q_268_1127, q_268_1128, q_268_1129, q_268_1132, q_268_1134, q_268_1135, q_268_1136, q_268_1138, q_268_1139, q_268_1140, q_268_1141, q_268_1142, q_268_1144, q_268_1145, q_268_1146, q_268_1147, q_268_1150, q_268_1152, q_268_1153, q_268_1156, q_268_1158, q_268_1161, q_268_1162, q_268_1163, q_268_1165, q_268_1168, q_268_1169, q_268_1170, q_268_1171, q_268_1173, q_268_1174, q_268_1175, q_268_1178, q_268_1179, q_268_1180, va_rf_s, bz_0, bz_1, bz_ok, bb_ok, Nat.add_assoc, w_lt, w_add, w_sub, w_mul, w_div, em_def, w_eq, w_inT, ↓ilt_t, ↓ilt_f, ↓ieq_t, ↓ieq_f, ntT, w_b, w_ix, kx_v, kx_n, kl_n, kl_i, kl_r, kl_o, inA_i, inA_s, inA_b, inA_z, inA_l, inA_0, inA_4, inA_5, inA_6, inA_7, inA_8, inA_9, inA_10, al_0, al_1, al_2, al_4, al_5, al_98, bsP_2, bsP_3, wr_same, wr_wr, wr_ne, up_same, up_ne, Nat.reduceAdd, Int.reduceAdd, Int.reduceSub, Int.reduceMul, Int.reduceLT, Int.reduceLE, Int.reduceEq, Int.reduceNeg, Int.reduceToNat, Nat.reduceLT, Nat.reduceLeDiff, Nat.reduceEqDiff, ↓reduceIte, true_and, and_true, not_true_eq_false, not_false_eq_true, eq_self, or_true, true_or, or_false, false_or, if_true, if_false, Int.toNat_natCast, w_ite, Nat.add_zero, reduceCtorEq, ne_eq, hm1, s153, e0]
    exact hQ'
theorem kd_16 (h : LB S I L R G c s s) (hf : few s) (hbc : b < c) (hb : Scr S I b n x) (hi : i + 6 ≤ n) (hn : n ≤ 3072) (hQ : KN S I G d c b i Q s) : XX (d + 80) 268 1183 [some (.ref b), some (.ref c), some (.ref (c + 121)), some (.ref (c + 6799)), some (.int (w i)), o5, o6, o7] [] (mk S I L R G) Q := by
  have hc := h.1.1.1
  have hm := h.2.1.1.1
  have hb0 := hb.1
  have e1 : ((i : Int) + 1).toNat = i + 1 := by omega
  obtain ⟨v1, b1⟩ := hb.2 (i + 1) (by omega)
  have e2 : ((i : Int) + 2).toNat = i + 2 := by omega
  obtain ⟨v2, b2⟩ := hb.2 (i + 2) (by omega)
  have e3 : ((i : Int) + 3).toNat = i + 3 := by omega
  obtain ⟨v3, b3⟩ := hb.2 (i + 3) (by omega)
  have e4 : ((i : Int) + 4).toNat = i + 4 := by omega
  obtain ⟨v4, b4⟩ := hb.2 (i + 4) (by omega)
  simp (disch := omega) only [q_268_1183, q_268_1184, q_268_1185, q_268_1187, q_268_1188, q_268_1189, q_268_1190, q_268_1191, q_268_1193, q_268_1194, q_268_1195, q_268_1196, q_268_1197, q_268_1199, q_268_1200, q_268_1201, q_268_1202, q_268_1203, q_268_1205, q_268_1206, q_268_1207, q_268_1208, q_268_1209, q_268_1212, q_268_1214, q_268_1215, q_268_1216, q_268_1218, q_268_1219, q_268_1220, q_268_1221, q_268_1222, q_268_1224, q_268_1225, q_268_1226, q_268_1227, q_268_1228, q_268_1230, q_268_1231, q_268_1232, q_268_1233, q_268_1234, q_268_1236, q_268_1237, q_268_1238, q_268_1239, q_268_1242, q_268_1244, q_268_1245, q_268_1248, q_268_1250, q_268_1253, q_268_1254, q_268_1255, q_268_1257, q_268_1260, q_268_1261, q_268_1262, q_268_1263, q_268_1265, q_268_1266, q_268_1267, q_268_1270, q_268_1271, q_268_1272, va_rf_s, bz_0, bz_1, bz_ok, bb_ok, Nat.add_assoc, w_lt, w_add, w_sub, w_mul, w_div, em_def, w_eq, w_inT, ↓ilt_t, ↓ilt_f, ↓ieq_t, ↓ieq_f, ntT, w_b, w_ix, kx_v, kx_n, kl_n, kl_i, kl_r, kl_o, inA_i, inA_s, inA_b, inA_z, inA_l, inA_0, inA_4, inA_5, inA_6, inA_7, inA_8, inA_9, inA_10, al_0, al_1, al_2, al_4, al_5, al_98, bsP_2, bsP_3, wr_same, wr_wr, wr_ne, up_same, up_ne, Nat.reduceAdd, Int.reduceAdd, Int.reduceSub, Int.reduceMul, Int.reduceLT, Int.reduceLE, Int.reduceEq, Int.reduceNeg, Int.reduceToNat, Nat.reduceLT, Nat.reduceLeDiff, Nat.reduceEqDiff, ↓reduceIte, true_and, and_true, not_true_eq_false, not_false_eq_true, eq_self, or_true, true_or, or_false, false_or, if_true, if_false, Int.toNat_natCast, w_ite, Nat.add_zero, reduceCtorEq, ne_eq, hc, hm, hb0, e1, v1, e2, v2, e3, v3, e4, v4]
  refine sp_253 h hf b1 b2 b3 b4 (fun S' I' L' R' G' z h' hL' hz => ?_)
  have hb1 : S' b = some (.inl (98, n)) := ((hL'.1 b hbc).1).trans hb.1
  have hI1 : I' b = I b := (hL'.1 b hbc).2
  have hm1 : S' (c + 121) = some (.inr 12) := h'.2.1.1.1
  have ho1 : S' (c + 6799) = some (.inl (1, 1)) := h'.2.2.1
  simp (disch := omega) only [q_268_1183, q_268_1184, q_268_1185, q_268_1187, q_268_1188, q_268_1189, q_268_1190, q_268_1191, q_268_1193, q_268_1194, q_268_1195, q_268_1196, q_268_1197, q_268_1199, q_268_1200, q_268_1201, q_268_1202, q_268_1203, q_268_1205, q_268_1206, q_268_1207, q_268_1208, q_268_1209, q_268_1212, q_268_1214, q_268_1215, q_268_1216, q_268_1218, q_268_1219, q_268_1220, q_268_1221, q_268_1222, q_268_1224, q_268_1225, q_268_1226, q_268_1227, q_268_1228, q_268_1230, q_268_1231, q_268_1232, q_268_1233, q_268_1234, q_268_1236, q_268_1237, q_268_1238, q_268_1239, q_268_1242, q_268_1244, q_268_1245, q_268_1248, q_268_1250, q_268_1253, q_268_1254, q_268_1255, q_268_1257, q_268_1260, q_268_1261, q_268_1262, q_268_1263, q_268_1265, q_268_1266, q_268_1267, q_268_1270, q_268_1271, q_268_1272, va_rf_s, bz_0, bz_1, bz_ok, bb_ok, Nat.add_assoc, w_lt, w_add, w_sub, w_mul, w_div, em_def, w_eq, w_inT, ↓ilt_t, ↓ilt_f, ↓ieq_t, ↓ieq_f, ntT, w_b, w_ix, kx_v, kx_n, kl_n, kl_i, kl_r, kl_o, inA_i, inA_s, inA_b, inA_z, inA_l, inA_0, inA_4, inA_5, inA_6, inA_7, inA_8, inA_9, inA_10, al_0, al_1, al_2, al_4, al_5, al_98, bsP_2, bsP_3, wr_same, wr_wr, wr_ne, up_same, up_ne, Nat.reduceAdd, Int.reduceAdd, Int.reduceSub, Int.reduceMul, Int.reduceLT, Int.reduceLE, Int.reduceEq, Int.reduceNeg, Int.reduceToNat, Nat.reduceLT, Nat.reduceLeDiff, Nat.reduceEqDiff, ↓reduceIte, true_and, and_true, not_true_eq_false, not_false_eq_true, eq_self, or_true, true_or, or_false, false_or, if_true, if_false, Int.toNat_natCast, w_ite, Nat.add_zero, reduceCtorEq, ne_eq, hm1, hb1, hI1, e1, v1, e2, v2, e3, v3, e4, v4]
  refine sp_212 h'.2.1 hf b1 b2 b3 b4 (fun I2 L2 o hM hF hA => ?_)
  obtain ⟨h2, hL2⟩ := h'.mdl hM hF
  have hout : L2 (c + 6799) = L' (c + 6799) := (hF _ (Or.inr (by omega))).2
  have s153 := fun {d : Nat} {Q : XO → Hp → Prop} => sp_153 (d := d) (Q := Q) (I := I2) (L := L2) (R := R') (G := G') hm1
  have hQ' := hQ S' I2 L2 R' G' _ (some (.int (w z))) (some (.int o)) o7 h2 (hL'.trans hL2) rCause_g
  unfold MA at hA
  cases hr : (rCause s (x (i + 1)) (x (i + 2)) (x (i + 3)) (x (i + 4))).1 with
  | inl v =>
    rw [hr] at hz hA
    obtain ⟨rfl, ez⟩ := hz
    obtain ⟨rfl, e0⟩ := hA
    rw [← hout] at ez
    simp (disch := omega) only [q_268_1183, q_268_1184, q_268_1185, q_268_1187, q_268_1188, q_268_1189, q_268_1190, q_268_1191, q_268_1193, q_268_1194, q_268_1195, q_268_1196, q_268_1197, q_268_1199, q_268_1200, q_268_1201, q_268_1202, q_268_1203, q_268_1205, q_268_1206, q_268_1207, q_268_1208, q_268_1209, q_268_1212, q_268_1214, q_268_1215, q_268_1216, q_268_1218, q_268_1219, q_268_1220, q_268_1221, q_268_1222, q_268_1224, q_268_1225, q_268_1226, q_268_1227, q_268_1228, q_268_1230, q_268_1231, q_268_1232, q_268_1233, q_268_1234, q_268_1236, q_268_1237, q_268_1238, q_268_1239, q_268_1242, q_268_1244, q_268_1245, q_268_1248, q_268_1250, q_268_1253, q_268_1254, q_268_1255, q_268_1257, q_268_1260, q_268_1261, q_268_1262, q_268_1263, q_268_1265, q_268_1266, q_268_1267, q_268_1270, q_268_1271, q_268_1272, va_rf_s, bz_0, bz_1, bz_ok, bb_ok, Nat.add_assoc, w_lt, w_add, w_sub, w_mul, w_div, em_def, w_eq, w_inT, ↓ilt_t, ↓ilt_f, ↓ieq_t, ↓ieq_f, ntT, w_b, w_ix, kx_v, kx_n, kl_n, kl_i, kl_r, kl_o, inA_i, inA_s, inA_b, inA_z, inA_l, inA_0, inA_4, inA_5, inA_6, inA_7, inA_8, inA_9, inA_10, al_0, al_1, al_2, al_4, al_5, al_98, bsP_2, bsP_3, wr_same, wr_wr, wr_ne, up_same, up_ne, Nat.reduceAdd, Int.reduceAdd, Int.reduceSub, Int.reduceMul, Int.reduceLT, Int.reduceLE, Int.reduceEq, Int.reduceNeg, Int.reduceToNat, Nat.reduceLT, Nat.reduceLeDiff, Nat.reduceEqDiff, ↓reduceIte, true_and, and_true, not_true_eq_false, not_false_eq_true, eq_self, or_true, true_or, or_false, false_or, if_true, if_false, Int.toNat_natCast, w_ite, Nat.add_zero, reduceCtorEq, ne_eq, hm1, ho1, s153, e0, ez, lg_self]
    exact hQ'
  | inr E =>
    rw [hr] at hz hA
    have e0 := hA.2
    have tb := tc_b (two := true) (E := E)
    dsimp only at hz
    rw [← hz] at e0 tb
    simp (disch := omega) only [q_268_1183, q_268_1184, q_268_1185, q_268_1187, q_268_1188, q_268_1189, q_268_1190, q_268_1191, q_268_1193, q_268_1194, q_268_1195, q_268_1196, q_268_1197, q_268_1199, q_268_1200, q_268_1201, q_268_1202, q_268_1203, q_268_1205, q_268_1206, q_268_1207, q_268_1208, q_268_1209, q_268_1212, q_268_1214, q_268_1215, q_268_1216, q_268_1218, q_268_1219, q_268_1220, q_268_1221, q_268_1222, q_268_1224, q_268_1225, q_268_1226, q_268_1227, q_268_1228, q_268_1230, q_268_1231, q_268_1232, q_268_1233, q_268_1234, q_268_1236, q_268_1237, q_268_1238, q_268_1239, q_268_1242, q_268_1244, q_268_1245, q_268_1248, q_268_1250, q_268_1253, q_268_1254, q_268_1255, q_268_1257, q_268_1260, q_268_1261, q_268_1262, q_268_1263, q_268_1265, q_268_1266, q_268_1267, q_268_1270, q_268_1271, q_268_1272, va_rf_s, bz_0, bz_1, bz_ok, bb_ok, Nat.add_assoc, w_lt, w_add, w_sub, w_mul, w_div, em_def, w_eq, w_inT, ↓ilt_t, ↓ilt_f, ↓ieq_t, ↓ieq_f, ntT, w_b, w_ix, kx_v, kx_n, kl_n, kl_i, kl_r, kl_o, inA_i, inA_s, inA_b, inA_z, inA_l, inA_0, inA_4, inA_5, inA_6, inA_7, inA_8, inA_9, inA_10, al_0, al_1, al_2, al_4, al_5, al_98, bsP_2, bsP_3, wr_same, wr_wr, wr_ne, up_same, up_ne, Nat.reduceAdd, Int.reduceAdd, Int.reduceSub, Int.reduceMul, Int.reduceLT, Int.reduceLE, Int.reduceEq, Int.reduceNeg, Int.reduceToNat, Nat.reduceLT, Nat.reduceLeDiff, Nat.reduceEqDiff, ↓reduceIte, true_and, and_true, not_true_eq_false, not_false_eq_true, eq_self, or_true, true_or, or_false, false_or, if_true, if_false, Int.toNat_natCast, w_ite, Nat.add_zero, reduceCtorEq, ne_eq, hm1, s153, e0]
    exact hQ'
theorem kd_17 (h : LB S I L R G c s s) (hf : few s) (hbc : b < c) (hb : Scr S I b n x) (hi : i + 6 ≤ n) (hn : n ≤ 3072) (hQ : KN S I G d c b i Q s) : XX (d + 80) 268 1275 [some (.ref b), some (.ref c), some (.ref (c + 121)), some (.ref (c + 6799)), some (.int (w i)), o5, o6, o7] [] (mk S I L R G) Q := by
  have hc := h.1.1.1
  have hm := h.2.1.1.1
  have hb0 := hb.1
  have e1 : ((i : Int) + 1).toNat = i + 1 := by omega
  obtain ⟨v1, b1⟩ := hb.2 (i + 1) (by omega)
  have e2 : ((i : Int) + 2).toNat = i + 2 := by omega
  obtain ⟨v2, b2⟩ := hb.2 (i + 2) (by omega)
  simp (disch := omega) only [q_268_1275, q_268_1276, q_268_1277, q_268_1279, q_268_1280, q_268_1281, q_268_1282, q_268_1283, q_268_1285, q_268_1286, q_268_1287, q_268_1288, q_268_1289, q_268_1292, q_268_1294, q_268_1295, q_268_1296, q_268_1298, q_268_1299, q_268_1300, q_268_1301, q_268_1302, q_268_1304, q_268_1305, q_268_1306, q_268_1307, q_268_1310, q_268_1312, q_268_1313, q_268_1316, q_268_1318, q_268_1321, q_268_1322, q_268_1323, q_268_1325, q_268_1328, q_268_1329, q_268_1330, q_268_1331, q_268_1333, q_268_1334, q_268_1335, q_268_1338, q_268_1339, q_268_1340, va_rf_s, bz_0, bz_1, bz_ok, bb_ok, Nat.add_assoc, w_lt, w_add, w_sub, w_mul, w_div, em_def, w_eq, w_inT, ↓ilt_t, ↓ilt_f, ↓ieq_t, ↓ieq_f, ntT, w_b, w_ix, kx_v, kx_n, kl_n, kl_i, kl_r, kl_o, inA_i, inA_s, inA_b, inA_z, inA_l, inA_0, inA_4, inA_5, inA_6, inA_7, inA_8, inA_9, inA_10, al_0, al_1, al_2, al_4, al_5, al_98, bsP_2, bsP_3, wr_same, wr_wr, wr_ne, up_same, up_ne, Nat.reduceAdd, Int.reduceAdd, Int.reduceSub, Int.reduceMul, Int.reduceLT, Int.reduceLE, Int.reduceEq, Int.reduceNeg, Int.reduceToNat, Nat.reduceLT, Nat.reduceLeDiff, Nat.reduceEqDiff, ↓reduceIte, true_and, and_true, not_true_eq_false, not_false_eq_true, eq_self, or_true, true_or, or_false, false_or, if_true, if_false, Int.toNat_natCast, w_ite, Nat.add_zero, reduceCtorEq, ne_eq, hc, hm, hb0, e1, v1, e2, v2]
  refine sp_254 h hf b1 b2 (fun S' I' L' R' G' z h' hL' hz => ?_)
  have hb1 : S' b = some (.inl (98, n)) := ((hL'.1 b hbc).1).trans hb.1
  have hI1 : I' b = I b := (hL'.1 b hbc).2
  have hm1 : S' (c + 121) = some (.inr 12) := h'.2.1.1.1
  have ho1 : S' (c + 6799) = some (.inl (1, 1)) := h'.2.2.1
  simp (disch := omega) only [q_268_1275, q_268_1276, q_268_1277, q_268_1279, q_268_1280, q_268_1281, q_268_1282, q_268_1283, q_268_1285, q_268_1286, q_268_1287, q_268_1288, q_268_1289, q_268_1292, q_268_1294, q_268_1295, q_268_1296, q_268_1298, q_268_1299, q_268_1300, q_268_1301, q_268_1302, q_268_1304, q_268_1305, q_268_1306, q_268_1307, q_268_1310, q_268_1312, q_268_1313, q_268_1316, q_268_1318, q_268_1321, q_268_1322, q_268_1323, q_268_1325, q_268_1328, q_268_1329, q_268_1330, q_268_1331, q_268_1333, q_268_1334, q_268_1335, q_268_1338, q_268_1339, q_268_1340, va_rf_s, bz_0, bz_1, bz_ok, bb_ok, Nat.add_assoc, w_lt, w_add, w_sub, w_mul, w_div, em_def, w_eq, w_inT, ↓ilt_t, ↓ilt_f, ↓ieq_t, ↓ieq_f, ntT, w_b, w_ix, kx_v, kx_n, kl_n, kl_i, kl_r, kl_o, inA_i, inA_s, inA_b, inA_z, inA_l, inA_0, inA_4, inA_5, inA_6, inA_7, inA_8, inA_9, inA_10, al_0, al_1, al_2, al_4, al_5, al_98, bsP_2, bsP_3, wr_same, wr_wr, wr_ne, up_same, up_ne, Nat.reduceAdd, Int.reduceAdd, Int.reduceSub, Int.reduceMul, Int.reduceLT, Int.reduceLE, Int.reduceEq, Int.reduceNeg, Int.reduceToNat, Nat.reduceLT, Nat.reduceLeDiff, Nat.reduceEqDiff, ↓reduceIte, true_and, and_true, not_true_eq_false, not_false_eq_true, eq_self, or_true, true_or, or_false, false_or, if_true, if_false, Int.toNat_natCast, w_ite, Nat.add_zero, reduceCtorEq, ne_eq, hm1, hb1, hI1, e1, v1, e2, v2]
  refine sp_213 h'.2.1 hf b1 b2 (fun I2 L2 o hM hF hA => ?_)
  obtain ⟨h2, hL2⟩ := h'.mdl hM hF
  have hout : L2 (c + 6799) = L' (c + 6799) := (hF _ (Or.inr (by omega))).2
  have s153 := fun {d : Nat} {Q : XO → Hp → Prop} => sp_153 (d := d) (Q := Q) (I := I2) (L := L2) (R := R') (G := G') hm1
  have hQ' := hQ S' I2 L2 R' G' _ (some (.int (w z))) (some (.int o)) o7 h2 (hL'.trans hL2) rLx_g
  unfold MA at hA
  cases hr : (rLx s (x (i + 1)) (x (i + 2)) 4 (fun rs => vSilent rs s.2.1.1 (x (i + 2)))).1 with
  | inl v =>
    rw [hr] at hz hA
    obtain ⟨rfl, ez⟩ := hz
    obtain ⟨rfl, e0⟩ := hA
    rw [← hout] at ez
    simp (disch := omega) only [q_268_1275, q_268_1276, q_268_1277, q_268_1279, q_268_1280, q_268_1281, q_268_1282, q_268_1283, q_268_1285, q_268_1286, q_268_1287, q_268_1288, q_268_1289, q_268_1292, q_268_1294, q_268_1295, q_268_1296, q_268_1298, q_268_1299, q_268_1300, q_268_1301, q_268_1302, q_268_1304, q_268_1305, q_268_1306, q_268_1307, q_268_1310, q_268_1312, q_268_1313, q_268_1316, q_268_1318, q_268_1321, q_268_1322, q_268_1323, q_268_1325, q_268_1328, q_268_1329, q_268_1330, q_268_1331, q_268_1333, q_268_1334, q_268_1335, q_268_1338, q_268_1339, q_268_1340, va_rf_s, bz_0, bz_1, bz_ok, bb_ok, Nat.add_assoc, w_lt, w_add, w_sub, w_mul, w_div, em_def, w_eq, w_inT, ↓ilt_t, ↓ilt_f, ↓ieq_t, ↓ieq_f, ntT, w_b, w_ix, kx_v, kx_n, kl_n, kl_i, kl_r, kl_o, inA_i, inA_s, inA_b, inA_z, inA_l, inA_0, inA_4, inA_5, inA_6, inA_7, inA_8, inA_9, inA_10, al_0, al_1, al_2, al_4, al_5, al_98, bsP_2, bsP_3, wr_same, wr_wr, wr_ne, up_same, up_ne, Nat.reduceAdd, Int.reduceAdd, Int.reduceSub, Int.reduceMul, Int.reduceLT, Int.reduceLE, Int.reduceEq, Int.reduceNeg, Int.reduceToNat, Nat.reduceLT, Nat.reduceLeDiff, Nat.reduceEqDiff, ↓reduceIte, true_and, and_true, not_true_eq_false, not_false_eq_true, eq_self, or_true, true_or, or_false, false_or, if_true, if_false, Int.toNat_natCast, w_ite, Nat.add_zero, reduceCtorEq, ne_eq, hm1, ho1, s153, e0, ez, lg_self]
    exact hQ'
  | inr E =>
    rw [hr] at hz hA
    have e0 := hA.2
    have tb := tc_b (two := true) (E := E)
    dsimp only at hz
    rw [← hz] at e0 tb
    simp (disch := omega) only [q_268_1275, q_268_1276, q_268_1277, q_268_1279, q_268_1280, q_268_1281, q_268_1282, q_268_1283, q_268_1285, q_268_1286, q_268_1287, q_268_1288, q_268_1289, q_268_1292, q_268_1294, q_268_1295, q_268_1296, q_268_1298, q_268_1299, q_268_1300, q_268_1301, q_268_1302, q_268_1304, q_268_1305, q_268_1306, q_268_1307, q_268_1310, q_268_1312, q_268_1313, q_268_1316, q_268_1318, q_268_1321, q_268_1322, q_268_1323, q_268_1325, q_268_1328, q_268_1329, q_268_1330, q_268_1331, q_268_1333, q_268_1334, q_268_1335, q_268_1338, q_268_1339, q_268_1340, va_rf_s, bz_0, bz_1, bz_ok, bb_ok, Nat.add_assoc, w_lt, w_add, w_sub, w_mul, w_div, em_def, w_eq, w_inT, ↓ilt_t, ↓ilt_f, ↓ieq_t, ↓ieq_f, ntT, w_b, w_ix, kx_v, kx_n, kl_n, kl_i, kl_r, kl_o, inA_i, inA_s, inA_b, inA_z, inA_l, inA_0, inA_4, inA_5, inA_6, inA_7, inA_8, inA_9, inA_10, al_0, al_1, al_2, al_4, al_5, al_98, bsP_2, bsP_3, wr_same, wr_wr, wr_ne, up_same, up_ne, Nat.reduceAdd, Int.reduceAdd, Int.reduceSub, Int.reduceMul, Int.reduceLT, Int.reduceLE, Int.reduceEq, Int.reduceNeg, Int.reduceToNat, Nat.reduceLT, Nat.reduceLeDiff, Nat.reduceEqDiff, ↓reduceIte, true_and, and_true, not_true_eq_false, not_false_eq_true, eq_self, or_true, true_or, or_false, false_or, if_true, if_false, Int.toNat_natCast, w_ite, Nat.add_zero, reduceCtorEq, ne_eq, hm1, s153, e0]
    exact hQ'
theorem kd_18 (h : LB S I L R G c s s) (hf : few s) (hbc : b < c) (hb : Scr S I b n x) (hi : i + 6 ≤ n) (hn : n ≤ 3072) (hQ : KN S I G d c b i Q s) : XX (d + 80) 268 1343 [some (.ref b), some (.ref c), some (.ref (c + 121)), some (.ref (c + 6799)), some (.int (w i)), o5, o6, o7] [] (mk S I L R G) Q := by
  have hc := h.1.1.1
  have hm := h.2.1.1.1
  have hb0 := hb.1
  have e1 : ((i : Int) + 1).toNat = i + 1 := by omega
  obtain ⟨v1, b1⟩ := hb.2 (i + 1) (by omega)
  have e2 : ((i : Int) + 2).toNat = i + 2 := by omega
  obtain ⟨v2, b2⟩ := hb.2 (i + 2) (by omega)
  simp (disch := omega) only [q_268_1343, q_268_1344, q_268_1345, q_268_1347, q_268_1348, q_268_1349, q_268_1350, q_268_1351, q_268_1353, q_268_1354, q_268_1355, q_268_1356, q_268_1357, q_268_1360, q_268_1362, q_268_1363, q_268_1364, q_268_1366, q_268_1367, q_268_1368, q_268_1369, q_268_1370, q_268_1372, q_268_1373, q_268_1374, q_268_1375, q_268_1378, q_268_1380, q_268_1381, q_268_1384, q_268_1386, q_268_1389, q_268_1390, q_268_1391, q_268_1393, q_268_1396, q_268_1397, q_268_1398, q_268_1399, q_268_1401, q_268_1402, q_268_1403, q_268_1406, q_268_1407, q_268_1408, va_rf_s, bz_0, bz_1, bz_ok, bb_ok, Nat.add_assoc, w_lt, w_add, w_sub, w_mul, w_div, em_def, w_eq, w_inT, ↓ilt_t, ↓ilt_f, ↓ieq_t, ↓ieq_f, ntT, w_b, w_ix, kx_v, kx_n, kl_n, kl_i, kl_r, kl_o, inA_i, inA_s, inA_b, inA_z, inA_l, inA_0, inA_4, inA_5, inA_6, inA_7, inA_8, inA_9, inA_10, al_0, al_1, al_2, al_4, al_5, al_98, bsP_2, bsP_3, wr_same, wr_wr, wr_ne, up_same, up_ne, Nat.reduceAdd, Int.reduceAdd, Int.reduceSub, Int.reduceMul, Int.reduceLT, Int.reduceLE, Int.reduceEq, Int.reduceNeg, Int.reduceToNat, Nat.reduceLT, Nat.reduceLeDiff, Nat.reduceEqDiff, ↓reduceIte, true_and, and_true, not_true_eq_false, not_false_eq_true, eq_self, or_true, true_or, or_false, false_or, if_true, if_false, Int.toNat_natCast, w_ite, Nat.add_zero, reduceCtorEq, ne_eq, hc, hm, hb0, e1, v1, e2, v2]
  refine sp_255 h hf b1 b2 (fun S' I' L' R' G' z h' hL' hz => ?_)
  have hb1 : S' b = some (.inl (98, n)) := ((hL'.1 b hbc).1).trans hb.1
  have hI1 : I' b = I b := (hL'.1 b hbc).2
  have hm1 : S' (c + 121) = some (.inr 12) := h'.2.1.1.1
  have ho1 : S' (c + 6799) = some (.inl (1, 1)) := h'.2.2.1
  simp (disch := omega) only [q_268_1343, q_268_1344, q_268_1345, q_268_1347, q_268_1348, q_268_1349, q_268_1350, q_268_1351, q_268_1353, q_268_1354, q_268_1355, q_268_1356, q_268_1357, q_268_1360, q_268_1362, q_268_1363, q_268_1364, q_268_1366, q_268_1367, q_268_1368, q_268_1369, q_268_1370, q_268_1372, q_268_1373, q_268_1374, q_268_1375, q_268_1378, q_268_1380, q_268_1381, q_268_1384, q_268_1386, q_268_1389, q_268_1390, q_268_1391, q_268_1393, q_268_1396, q_268_1397, q_268_1398, q_268_1399, q_268_1401, q_268_1402, q_268_1403, q_268_1406, q_268_1407, q_268_1408, va_rf_s, bz_0, bz_1, bz_ok, bb_ok, Nat.add_assoc, w_lt, w_add, w_sub, w_mul, w_div, em_def, w_eq, w_inT, ↓ilt_t, ↓ilt_f, ↓ieq_t, ↓ieq_f, ntT, w_b, w_ix, kx_v, kx_n, kl_n, kl_i, kl_r, kl_o, inA_i, inA_s, inA_b, inA_z, inA_l, inA_0, inA_4, inA_5, inA_6, inA_7, inA_8, inA_9, inA_10, al_0, al_1, al_2, al_4, al_5, al_98, bsP_2, bsP_3, wr_same, wr_wr, wr_ne, up_same, up_ne, Nat.reduceAdd, Int.reduceAdd, Int.reduceSub, Int.reduceMul, Int.reduceLT, Int.reduceLE, Int.reduceEq, Int.reduceNeg, Int.reduceToNat, Nat.reduceLT, Nat.reduceLeDiff, Nat.reduceEqDiff, ↓reduceIte, true_and, and_true, not_true_eq_false, not_false_eq_true, eq_self, or_true, true_or, or_false, false_or, if_true, if_false, Int.toNat_natCast, w_ite, Nat.add_zero, reduceCtorEq, ne_eq, hm1, hb1, hI1, e1, v1, e2, v2]
  refine sp_217 h'.2.1 hf b1 b2 (fun I2 L2 o hM hF hA => ?_)
  obtain ⟨h2, hL2⟩ := h'.mdl hM hF
  have hout : L2 (c + 6799) = L' (c + 6799) := (hF _ (Or.inr (by omega))).2
  have s153 := fun {d : Nat} {Q : XO → Hp → Prop} => sp_153 (d := d) (Q := Q) (I := I2) (L := L2) (R := R') (G := G') hm1
  have hQ' := hQ S' I2 L2 R' G' _ (some (.int (w z))) (some (.int o)) o7 h2 (hL'.trans hL2) rLx_g
  unfold MA at hA
  cases hr : (rLx s (x (i + 1)) (x (i + 2)) 3 (fun rs => vAlike rs s.2.1.1 (x (i + 2)))).1 with
  | inl v =>
    rw [hr] at hz hA
    obtain ⟨rfl, ez⟩ := hz
    obtain ⟨rfl, e0⟩ := hA
    rw [← hout] at ez
    simp (disch := omega) only [q_268_1343, q_268_1344, q_268_1345, q_268_1347, q_268_1348, q_268_1349, q_268_1350, q_268_1351, q_268_1353, q_268_1354, q_268_1355, q_268_1356, q_268_1357, q_268_1360, q_268_1362, q_268_1363, q_268_1364, q_268_1366, q_268_1367, q_268_1368, q_268_1369, q_268_1370, q_268_1372, q_268_1373, q_268_1374, q_268_1375, q_268_1378, q_268_1380, q_268_1381, q_268_1384, q_268_1386, q_268_1389, q_268_1390, q_268_1391, q_268_1393, q_268_1396, q_268_1397, q_268_1398, q_268_1399, q_268_1401, q_268_1402, q_268_1403, q_268_1406, q_268_1407, q_268_1408, va_rf_s, bz_0, bz_1, bz_ok, bb_ok, Nat.add_assoc, w_lt, w_add, w_sub, w_mul, w_div, em_def, w_eq, w_inT, ↓ilt_t, ↓ilt_f, ↓ieq_t, ↓ieq_f, ntT, w_b, w_ix, kx_v, kx_n, kl_n, kl_i, kl_r, kl_o, inA_i, inA_s, inA_b, inA_z, inA_l, inA_0, inA_4, inA_5, inA_6, inA_7, inA_8, inA_9, inA_10, al_0, al_1, al_2, al_4, al_5, al_98, bsP_2, bsP_3, wr_same, wr_wr, wr_ne, up_same, up_ne, Nat.reduceAdd, Int.reduceAdd, Int.reduceSub, Int.reduceMul, Int.reduceLT, Int.reduceLE, Int.reduceEq, Int.reduceNeg, Int.reduceToNat, Nat.reduceLT, Nat.reduceLeDiff, Nat.reduceEqDiff, ↓reduceIte, true_and, and_true, not_true_eq_false, not_false_eq_true, eq_self, or_true, true_or, or_false, false_or, if_true, if_false, Int.toNat_natCast, w_ite, Nat.add_zero, reduceCtorEq, ne_eq, hm1, ho1, s153, e0, ez, lg_self]
    exact hQ'
  | inr E =>
    rw [hr] at hz hA
    have e0 := hA.2
    have tb := tc_b (two := true) (E := E)
    dsimp only at hz
    rw [← hz] at e0 tb
    simp (disch := omega) only [q_268_1343, q_268_1344, q_268_1345, q_268_1347, q_268_1348, q_268_1349, q_268_1350, q_268_1351, q_268_1353, q_268_1354, q_268_1355, q_268_1356, q_268_1357, q_268_1360, q_268_1362, q_268_1363, q_268_1364, q_268_1366, q_268_1367, q_268_1368, q_268_1369, q_268_1370, q_268_1372, q_268_1373, q_268_1374, q_268_1375, q_268_1378, q_268_1380, q_268_1381, q_268_1384, q_268_1386, q_268_1389, q_268_1390, q_268_1391, q_268_1393, q_268_1396, q_268_1397, q_268_1398, q_268_1399, q_268_1401, q_268_1402, q_268_1403, q_268_1406, q_268_1407, q_268_1408, va_rf_s, bz_0, bz_1, bz_ok, bb_ok, Nat.add_assoc, w_lt, w_add, w_sub, w_mul, w_div, em_def, w_eq, w_inT, ↓ilt_t, ↓ilt_f, ↓ieq_t, ↓ieq_f, ntT, w_b, w_ix, kx_v, kx_n, kl_n, kl_i, kl_r, kl_o, inA_i, inA_s, inA_b, inA_z, inA_l, inA_0, inA_4, inA_5, inA_6, inA_7, inA_8, inA_9, inA_10, al_0, al_1, al_2, al_4, al_5, al_98, bsP_2, bsP_3, wr_same, wr_wr, wr_ne, up_same, up_ne, Nat.reduceAdd, Int.reduceAdd, Int.reduceSub, Int.reduceMul, Int.reduceLT, Int.reduceLE, Int.reduceEq, Int.reduceNeg, Int.reduceToNat, Nat.reduceLT, Nat.reduceLeDiff, Nat.reduceEqDiff, ↓reduceIte, true_and, and_true, not_true_eq_false, not_false_eq_true, eq_self, or_true, true_or, or_false, false_or, if_true, if_false, Int.toNat_natCast, w_ite, Nat.add_zero, reduceCtorEq, ne_eq, hm1, s153, e0]
    exact hQ'
theorem kd_19 (h : LB S I L R G c s s) (hf : few s) (hbc : b < c) (hb : Scr S I b n x) (hi : i + 6 ≤ n) (hn : n ≤ 3072) (hQ : KN S I G d c b i Q s) : XX (d + 80) 268 1411 [some (.ref b), some (.ref c), some (.ref (c + 121)), some (.ref (c + 6799)), some (.int (w i)), o5, o6, o7] [] (mk S I L R G) Q := by
  have hc := h.1.1.1
  have hm := h.2.1.1.1
  have hb0 := hb.1
  have e1 : ((i : Int) + 1).toNat = i + 1 := by omega
  obtain ⟨v1, b1⟩ := hb.2 (i + 1) (by omega)
  have e2 : ((i : Int) + 2).toNat = i + 2 := by omega
  obtain ⟨v2, b2⟩ := hb.2 (i + 2) (by omega)
  have e3 : ((i : Int) + 3).toNat = i + 3 := by omega
  obtain ⟨v3, b3⟩ := hb.2 (i + 3) (by omega)
  simp (disch := omega) only [q_268_1411, q_268_1412, q_268_1413, q_268_1415, q_268_1416, q_268_1417, q_268_1418, q_268_1419, q_268_1421, q_268_1422, q_268_1423, q_268_1424, q_268_1425, q_268_1427, q_268_1428, q_268_1429, q_268_1430, q_268_1431, q_268_1434, q_268_1436, q_268_1437, q_268_1438, q_268_1440, q_268_1441, q_268_1442, q_268_1443, q_268_1444, q_268_1446, q_268_1447, q_268_1448, q_268_1449, q_268_1450, q_268_1452, q_268_1453, q_268_1454, q_268_1455, q_268_1458, q_268_1460, q_268_1461, q_268_1464, q_268_1466, q_268_1469, q_268_1470, q_268_1471, q_268_1473, q_268_1476, q_268_1477, q_268_1478, q_268_1479, q_268_1481, q_268_1482, q_268_1483, q_268_1486, q_268_1487, q_268_1488, va_rf_s, bz_0, bz_1, bz_ok, bb_ok, Nat.add_assoc, w_lt, w_add, w_sub, w_mul, w_div, em_def, w_eq, w_inT, ↓ilt_t, ↓ilt_f, ↓ieq_t, ↓ieq_f, ntT, w_b, w_ix, kx_v, kx_n, kl_n, kl_i, kl_r, kl_o, inA_i, inA_s, inA_b, inA_z, inA_l, inA_0, inA_4, inA_5, inA_6, inA_7, inA_8, inA_9, inA_10, al_0, al_1, al_2, al_4, al_5, al_98, bsP_2, bsP_3, wr_same, wr_wr, wr_ne, up_same, up_ne, Nat.reduceAdd, Int.reduceAdd, Int.reduceSub, Int.reduceMul, Int.reduceLT, Int.reduceLE, Int.reduceEq, Int.reduceNeg, Int.reduceToNat, Nat.reduceLT, Nat.reduceLeDiff, Nat.reduceEqDiff, ↓reduceIte, true_and, and_true, not_true_eq_false, not_false_eq_true, eq_self, or_true, true_or, or_false, false_or, if_true, if_false, Int.toNat_natCast, w_ite, Nat.add_zero, reduceCtorEq, ne_eq, hc, hm, hb0, e1, v1, e2, v2, e3, v3]
  refine sp_256 h hf b1 b2 b3 (fun S' I' L' R' G' z h' hL' hz => ?_)
  have hb1 : S' b = some (.inl (98, n)) := ((hL'.1 b hbc).1).trans hb.1
  have hI1 : I' b = I b := (hL'.1 b hbc).2
  have hm1 : S' (c + 121) = some (.inr 12) := h'.2.1.1.1
  have ho1 : S' (c + 6799) = some (.inl (1, 1)) := h'.2.2.1
  simp (disch := omega) only [q_268_1411, q_268_1412, q_268_1413, q_268_1415, q_268_1416, q_268_1417, q_268_1418, q_268_1419, q_268_1421, q_268_1422, q_268_1423, q_268_1424, q_268_1425, q_268_1427, q_268_1428, q_268_1429, q_268_1430, q_268_1431, q_268_1434, q_268_1436, q_268_1437, q_268_1438, q_268_1440, q_268_1441, q_268_1442, q_268_1443, q_268_1444, q_268_1446, q_268_1447, q_268_1448, q_268_1449, q_268_1450, q_268_1452, q_268_1453, q_268_1454, q_268_1455, q_268_1458, q_268_1460, q_268_1461, q_268_1464, q_268_1466, q_268_1469, q_268_1470, q_268_1471, q_268_1473, q_268_1476, q_268_1477, q_268_1478, q_268_1479, q_268_1481, q_268_1482, q_268_1483, q_268_1486, q_268_1487, q_268_1488, va_rf_s, bz_0, bz_1, bz_ok, bb_ok, Nat.add_assoc, w_lt, w_add, w_sub, w_mul, w_div, em_def, w_eq, w_inT, ↓ilt_t, ↓ilt_f, ↓ieq_t, ↓ieq_f, ntT, w_b, w_ix, kx_v, kx_n, kl_n, kl_i, kl_r, kl_o, inA_i, inA_s, inA_b, inA_z, inA_l, inA_0, inA_4, inA_5, inA_6, inA_7, inA_8, inA_9, inA_10, al_0, al_1, al_2, al_4, al_5, al_98, bsP_2, bsP_3, wr_same, wr_wr, wr_ne, up_same, up_ne, Nat.reduceAdd, Int.reduceAdd, Int.reduceSub, Int.reduceMul, Int.reduceLT, Int.reduceLE, Int.reduceEq, Int.reduceNeg, Int.reduceToNat, Nat.reduceLT, Nat.reduceLeDiff, Nat.reduceEqDiff, ↓reduceIte, true_and, and_true, not_true_eq_false, not_false_eq_true, eq_self, or_true, true_or, or_false, false_or, if_true, if_false, Int.toNat_natCast, w_ite, Nat.add_zero, reduceCtorEq, ne_eq, hm1, hb1, hI1, e1, v1, e2, v2, e3, v3]
  refine sp_220 h'.2.1 hf b1 b2 b3 (fun I2 L2 o hM hF hA => ?_)
  obtain ⟨h2, hL2⟩ := h'.mdl hM hF
  have hout : L2 (c + 6799) = L' (c + 6799) := (hF _ (Or.inr (by omega))).2
  have s153 := fun {d : Nat} {Q : XO → Hp → Prop} => sp_153 (d := d) (Q := Q) (I := I2) (L := L2) (R := R') (G := G') hm1
  have hQ' := hQ S' I2 L2 R' G' _ (some (.int (w z))) (some (.int o)) o7 h2 (hL'.trans hL2) rRead_g
  unfold MA at hA
  cases hr : (rRead s (x (i + 1)) (x (i + 2)) (x (i + 3))).1 with
  | inl v =>
    rw [hr] at hz hA
    obtain ⟨rfl, ez⟩ := hz
    obtain ⟨rfl, e0⟩ := hA
    rw [← hout] at ez
    simp (disch := omega) only [q_268_1411, q_268_1412, q_268_1413, q_268_1415, q_268_1416, q_268_1417, q_268_1418, q_268_1419, q_268_1421, q_268_1422, q_268_1423, q_268_1424, q_268_1425, q_268_1427, q_268_1428, q_268_1429, q_268_1430, q_268_1431, q_268_1434, q_268_1436, q_268_1437, q_268_1438, q_268_1440, q_268_1441, q_268_1442, q_268_1443, q_268_1444, q_268_1446, q_268_1447, q_268_1448, q_268_1449, q_268_1450, q_268_1452, q_268_1453, q_268_1454, q_268_1455, q_268_1458, q_268_1460, q_268_1461, q_268_1464, q_268_1466, q_268_1469, q_268_1470, q_268_1471, q_268_1473, q_268_1476, q_268_1477, q_268_1478, q_268_1479, q_268_1481, q_268_1482, q_268_1483, q_268_1486, q_268_1487, q_268_1488, va_rf_s, bz_0, bz_1, bz_ok, bb_ok, Nat.add_assoc, w_lt, w_add, w_sub, w_mul, w_div, em_def, w_eq, w_inT, ↓ilt_t, ↓ilt_f, ↓ieq_t, ↓ieq_f, ntT, w_b, w_ix, kx_v, kx_n, kl_n, kl_i, kl_r, kl_o, inA_i, inA_s, inA_b, inA_z, inA_l, inA_0, inA_4, inA_5, inA_6, inA_7, inA_8, inA_9, inA_10, al_0, al_1, al_2, al_4, al_5, al_98, bsP_2, bsP_3, wr_same, wr_wr, wr_ne, up_same, up_ne, Nat.reduceAdd, Int.reduceAdd, Int.reduceSub, Int.reduceMul, Int.reduceLT, Int.reduceLE, Int.reduceEq, Int.reduceNeg, Int.reduceToNat, Nat.reduceLT, Nat.reduceLeDiff, Nat.reduceEqDiff, ↓reduceIte, true_and, and_true, not_true_eq_false, not_false_eq_true, eq_self, or_true, true_or, or_false, false_or, if_true, if_false, Int.toNat_natCast, w_ite, Nat.add_zero, reduceCtorEq, ne_eq, hm1, ho1, s153, e0, ez, lg_self]
    exact hQ'
  | inr E =>
    rw [hr] at hz hA
    have e0 := hA.2
    have tb := tc_b (two := true) (E := E)
    dsimp only at hz
    rw [← hz] at e0 tb
    simp (disch := omega) only [q_268_1411, q_268_1412, q_268_1413, q_268_1415, q_268_1416, q_268_1417, q_268_1418, q_268_1419, q_268_1421, q_268_1422, q_268_1423, q_268_1424, q_268_1425, q_268_1427, q_268_1428, q_268_1429, q_268_1430, q_268_1431, q_268_1434, q_268_1436, q_268_1437, q_268_1438, q_268_1440, q_268_1441, q_268_1442, q_268_1443, q_268_1444, q_268_1446, q_268_1447, q_268_1448, q_268_1449, q_268_1450, q_268_1452, q_268_1453, q_268_1454, q_268_1455, q_268_1458, q_268_1460, q_268_1461, q_268_1464, q_268_1466, q_268_1469, q_268_1470, q_268_1471, q_268_1473, q_268_1476, q_268_1477, q_268_1478, q_268_1479, q_268_1481, q_268_1482, q_268_1483, q_268_1486, q_268_1487, q_268_1488, va_rf_s, bz_0, bz_1, bz_ok, bb_ok, Nat.add_assoc, w_lt, w_add, w_sub, w_mul, w_div, em_def, w_eq, w_inT, ↓ilt_t, ↓ilt_f, ↓ieq_t, ↓ieq_f, ntT, w_b, w_ix, kx_v, kx_n, kl_n, kl_i, kl_r, kl_o, inA_i, inA_s, inA_b, inA_z, inA_l, inA_0, inA_4, inA_5, inA_6, inA_7, inA_8, inA_9, inA_10, al_0, al_1, al_2, al_4, al_5, al_98, bsP_2, bsP_3, wr_same, wr_wr, wr_ne, up_same, up_ne, Nat.reduceAdd, Int.reduceAdd, Int.reduceSub, Int.reduceMul, Int.reduceLT, Int.reduceLE, Int.reduceEq, Int.reduceNeg, Int.reduceToNat, Nat.reduceLT, Nat.reduceLeDiff, Nat.reduceEqDiff, ↓reduceIte, true_and, and_true, not_true_eq_false, not_false_eq_true, eq_self, or_true, true_or, or_false, false_or, if_true, if_false, Int.toNat_natCast, w_ite, Nat.add_zero, reduceCtorEq, ne_eq, hm1, s153, e0]
    exact hQ'
theorem kd_20 (h : LB S I L R G c s s) (hf : few s) (hbc : b < c) (hb : Scr S I b n x) (hi : i + 6 ≤ n) (hn : n ≤ 3072) (hQ : KN S I G d c b i Q s) : XX (d + 80) 268 1491 [some (.ref b), some (.ref c), some (.ref (c + 121)), some (.ref (c + 6799)), some (.int (w i)), o5, o6, o7] [] (mk S I L R G) Q := by
  have hc := h.1.1.1
  have hm := h.2.1.1.1
  have hb0 := hb.1
  have e1 : ((i : Int) + 1).toNat = i + 1 := by omega
  obtain ⟨v1, b1⟩ := hb.2 (i + 1) (by omega)
  have e2 : ((i : Int) + 2).toNat = i + 2 := by omega
  obtain ⟨v2, b2⟩ := hb.2 (i + 2) (by omega)
  have e3 : ((i : Int) + 3).toNat = i + 3 := by omega
  obtain ⟨v3, b3⟩ := hb.2 (i + 3) (by omega)
  simp (disch := omega) only [q_268_1491, q_268_1492, q_268_1493, q_268_1495, q_268_1496, q_268_1497, q_268_1498, q_268_1499, q_268_1501, q_268_1502, q_268_1503, q_268_1504, q_268_1505, q_268_1507, q_268_1508, q_268_1509, q_268_1510, q_268_1511, q_268_1514, q_268_1516, q_268_1517, q_268_1518, q_268_1520, q_268_1521, q_268_1522, q_268_1523, q_268_1524, q_268_1526, q_268_1527, q_268_1528, q_268_1529, q_268_1530, q_268_1532, q_268_1533, q_268_1534, q_268_1535, q_268_1538, q_268_1540, q_268_1541, q_268_1544, q_268_1546, q_268_1549, q_268_1550, q_268_1551, q_268_1553, q_268_1556, q_268_1557, q_268_1558, q_268_1559, q_268_1561, q_268_1562, q_268_1563, q_268_1566, q_268_1567, q_268_1568, va_rf_s, bz_0, bz_1, bz_ok, bb_ok, Nat.add_assoc, w_lt, w_add, w_sub, w_mul, w_div, em_def, w_eq, w_inT, ↓ilt_t, ↓ilt_f, ↓ieq_t, ↓ieq_f, ntT, w_b, w_ix, kx_v, kx_n, kl_n, kl_i, kl_r, kl_o, inA_i, inA_s, inA_b, inA_z, inA_l, inA_0, inA_4, inA_5, inA_6, inA_7, inA_8, inA_9, inA_10, al_0, al_1, al_2, al_4, al_5, al_98, bsP_2, bsP_3, wr_same, wr_wr, wr_ne, up_same, up_ne, Nat.reduceAdd, Int.reduceAdd, Int.reduceSub, Int.reduceMul, Int.reduceLT, Int.reduceLE, Int.reduceEq, Int.reduceNeg, Int.reduceToNat, Nat.reduceLT, Nat.reduceLeDiff, Nat.reduceEqDiff, ↓reduceIte, true_and, and_true, not_true_eq_false, not_false_eq_true, eq_self, or_true, true_or, or_false, false_or, if_true, if_false, Int.toNat_natCast, w_ite, Nat.add_zero, reduceCtorEq, ne_eq, hc, hm, hb0, e1, v1, e2, v2, e3, v3]
  refine sp_257 h hf b1 b2 b3 (fun S' I' L' R' G' z h' hL' hz => ?_)
  have hb1 : S' b = some (.inl (98, n)) := ((hL'.1 b hbc).1).trans hb.1
  have hI1 : I' b = I b := (hL'.1 b hbc).2
  have hm1 : S' (c + 121) = some (.inr 12) := h'.2.1.1.1
  have ho1 : S' (c + 6799) = some (.inl (1, 1)) := h'.2.2.1
  simp (disch := omega) only [q_268_1491, q_268_1492, q_268_1493, q_268_1495, q_268_1496, q_268_1497, q_268_1498, q_268_1499, q_268_1501, q_268_1502, q_268_1503, q_268_1504, q_268_1505, q_268_1507, q_268_1508, q_268_1509, q_268_1510, q_268_1511, q_268_1514, q_268_1516, q_268_1517, q_268_1518, q_268_1520, q_268_1521, q_268_1522, q_268_1523, q_268_1524, q_268_1526, q_268_1527, q_268_1528, q_268_1529, q_268_1530, q_268_1532, q_268_1533, q_268_1534, q_268_1535, q_268_1538, q_268_1540, q_268_1541, q_268_1544, q_268_1546, q_268_1549, q_268_1550, q_268_1551, q_268_1553, q_268_1556, q_268_1557, q_268_1558, q_268_1559, q_268_1561, q_268_1562, q_268_1563, q_268_1566, q_268_1567, q_268_1568, va_rf_s, bz_0, bz_1, bz_ok, bb_ok, Nat.add_assoc, w_lt, w_add, w_sub, w_mul, w_div, em_def, w_eq, w_inT, ↓ilt_t, ↓ilt_f, ↓ieq_t, ↓ieq_f, ntT, w_b, w_ix, kx_v, kx_n, kl_n, kl_i, kl_r, kl_o, inA_i, inA_s, inA_b, inA_z, inA_l, inA_0, inA_4, inA_5, inA_6, inA_7, inA_8, inA_9, inA_10, al_0, al_1, al_2, al_4, al_5, al_98, bsP_2, bsP_3, wr_same, wr_wr, wr_ne, up_same, up_ne, Nat.reduceAdd, Int.reduceAdd, Int.reduceSub, Int.reduceMul, Int.reduceLT, Int.reduceLE, Int.reduceEq, Int.reduceNeg, Int.reduceToNat, Nat.reduceLT, Nat.reduceLeDiff, Nat.reduceEqDiff, ↓reduceIte, true_and, and_true, not_true_eq_false, not_false_eq_true, eq_self, or_true, true_or, or_false, false_or, if_true, if_false, Int.toNat_natCast, w_ite, Nat.add_zero, reduceCtorEq, ne_eq, hm1, hb1, hI1, e1, v1, e2, v2, e3, v3]
  refine sp_225 h'.2.1 hf b1 b2 b3 (fun I2 L2 o hM hF hA => ?_)
  obtain ⟨h2, hL2⟩ := h'.mdl hM hF
  have hout : L2 (c + 6799) = L' (c + 6799) := (hF _ (Or.inr (by omega))).2
  have s153 := fun {d : Nat} {Q : XO → Hp → Prop} => sp_153 (d := d) (Q := Q) (I := I2) (L := L2) (R := R') (G := G') hm1
  have hQ' := hQ S' I2 L2 R' G' _ (some (.int (w z))) (some (.int o)) o7 h2 (hL'.trans hL2) rWays_g
  unfold MA at hA
  cases hr : (rWays s (x (i + 1)) (x (i + 2)) (x (i + 3))).1 with
  | inl v =>
    rw [hr] at hz hA
    obtain ⟨rfl, ez⟩ := hz
    obtain ⟨rfl, e0⟩ := hA
    rw [← hout] at ez
    simp (disch := omega) only [q_268_1491, q_268_1492, q_268_1493, q_268_1495, q_268_1496, q_268_1497, q_268_1498, q_268_1499, q_268_1501, q_268_1502, q_268_1503, q_268_1504, q_268_1505, q_268_1507, q_268_1508, q_268_1509, q_268_1510, q_268_1511, q_268_1514, q_268_1516, q_268_1517, q_268_1518, q_268_1520, q_268_1521, q_268_1522, q_268_1523, q_268_1524, q_268_1526, q_268_1527, q_268_1528, q_268_1529, q_268_1530, q_268_1532, q_268_1533, q_268_1534, q_268_1535, q_268_1538, q_268_1540, q_268_1541, q_268_1544, q_268_1546, q_268_1549, q_268_1550, q_268_1551, q_268_1553, q_268_1556, q_268_1557, q_268_1558, q_268_1559, q_268_1561, q_268_1562, q_268_1563, q_268_1566, q_268_1567, q_268_1568, va_rf_s, bz_0, bz_1, bz_ok, bb_ok, Nat.add_assoc, w_lt, w_add, w_sub, w_mul, w_div, em_def, w_eq, w_inT, ↓ilt_t, ↓ilt_f, ↓ieq_t, ↓ieq_f, ntT, w_b, w_ix, kx_v, kx_n, kl_n, kl_i, kl_r, kl_o, inA_i, inA_s, inA_b, inA_z, inA_l, inA_0, inA_4, inA_5, inA_6, inA_7, inA_8, inA_9, inA_10, al_0, al_1, al_2, al_4, al_5, al_98, bsP_2, bsP_3, wr_same, wr_wr, wr_ne, up_same, up_ne, Nat.reduceAdd, Int.reduceAdd, Int.reduceSub, Int.reduceMul, Int.reduceLT, Int.reduceLE, Int.reduceEq, Int.reduceNeg, Int.reduceToNat, Nat.reduceLT, Nat.reduceLeDiff, Nat.reduceEqDiff, ↓reduceIte, true_and, and_true, not_true_eq_false, not_false_eq_true, eq_self, or_true, true_or, or_false, false_or, if_true, if_false, Int.toNat_natCast, w_ite, Nat.add_zero, reduceCtorEq, ne_eq, hm1, ho1, s153, e0, ez, lg_self]
    exact hQ'
  | inr E =>
    rw [hr] at hz hA
    have e0 := hA.2
    have tb := tc_b (two := true) (E := E)
    dsimp only at hz
    rw [← hz] at e0 tb
    simp (disch := omega) only [q_268_1491, q_268_1492, q_268_1493, q_268_1495, q_268_1496, q_268_1497, q_268_1498, q_268_1499, q_268_1501, q_268_1502, q_268_1503, q_268_1504, q_268_1505, q_268_1507, q_268_1508, q_268_1509, q_268_1510, q_268_1511, q_268_1514, q_268_1516, q_268_1517, q_268_1518, q_268_1520, q_268_1521, q_268_1522, q_268_1523, q_268_1524, q_268_1526, q_268_1527, q_268_1528, q_268_1529, q_268_1530, q_268_1532, q_268_1533, q_268_1534, q_268_1535, q_268_1538, q_268_1540, q_268_1541, q_268_1544, q_268_1546, q_268_1549, q_268_1550, q_268_1551, q_268_1553, q_268_1556, q_268_1557, q_268_1558, q_268_1559, q_268_1561, q_268_1562, q_268_1563, q_268_1566, q_268_1567, q_268_1568, va_rf_s, bz_0, bz_1, bz_ok, bb_ok, Nat.add_assoc, w_lt, w_add, w_sub, w_mul, w_div, em_def, w_eq, w_inT, ↓ilt_t, ↓ilt_f, ↓ieq_t, ↓ieq_f, ntT, w_b, w_ix, kx_v, kx_n, kl_n, kl_i, kl_r, kl_o, inA_i, inA_s, inA_b, inA_z, inA_l, inA_0, inA_4, inA_5, inA_6, inA_7, inA_8, inA_9, inA_10, al_0, al_1, al_2, al_4, al_5, al_98, bsP_2, bsP_3, wr_same, wr_wr, wr_ne, up_same, up_ne, Nat.reduceAdd, Int.reduceAdd, Int.reduceSub, Int.reduceMul, Int.reduceLT, Int.reduceLE, Int.reduceEq, Int.reduceNeg, Int.reduceToNat, Nat.reduceLT, Nat.reduceLeDiff, Nat.reduceEqDiff, ↓reduceIte, true_and, and_true, not_true_eq_false, not_false_eq_true, eq_self, or_true, true_or, or_false, false_or, if_true, if_false, Int.toNat_natCast, w_ite, Nat.add_zero, reduceCtorEq, ne_eq, hm1, s153, e0]
    exact hQ'
theorem kd_21 (h : LB S I L R G c s s) (hf : few s) (hbc : b < c) (hb : Scr S I b n x) (hi : i + 6 ≤ n) (hn : n ≤ 3072) (hQ : KN S I G d c b i Q s) : XX (d + 80) 268 1571 [some (.ref b), some (.ref c), some (.ref (c + 121)), some (.ref (c + 6799)), some (.int (w i)), o5, o6, o7] [] (mk S I L R G) Q := by
  have hc := h.1.1.1
  have hm := h.2.1.1.1
  have hb0 := hb.1
  have e1 : ((i : Int) + 1).toNat = i + 1 := by omega
  obtain ⟨v1, b1⟩ := hb.2 (i + 1) (by omega)
  have e2 : ((i : Int) + 2).toNat = i + 2 := by omega
  obtain ⟨v2, b2⟩ := hb.2 (i + 2) (by omega)
  have e3 : ((i : Int) + 3).toNat = i + 3 := by omega
  obtain ⟨v3, b3⟩ := hb.2 (i + 3) (by omega)
  have e4 : ((i : Int) + 4).toNat = i + 4 := by omega
  obtain ⟨v4, b4⟩ := hb.2 (i + 4) (by omega)
  simp (disch := omega) only [q_268_1571, q_268_1572, q_268_1573, q_268_1575, q_268_1576, q_268_1577, q_268_1578, q_268_1579, q_268_1581, q_268_1582, q_268_1583, q_268_1584, q_268_1585, q_268_1587, q_268_1588, q_268_1589, q_268_1590, q_268_1591, q_268_1593, q_268_1594, q_268_1595, q_268_1596, q_268_1597, q_268_1600, q_268_1602, q_268_1603, q_268_1604, q_268_1606, q_268_1607, q_268_1608, q_268_1609, q_268_1610, q_268_1612, q_268_1613, q_268_1614, q_268_1615, q_268_1616, q_268_1618, q_268_1619, q_268_1620, q_268_1621, q_268_1622, q_268_1624, q_268_1625, q_268_1626, q_268_1627, q_268_1630, q_268_1632, q_268_1633, q_268_1636, q_268_1638, q_268_1641, q_268_1642, q_268_1643, q_268_1645, q_268_1648, q_268_1649, q_268_1650, q_268_1651, q_268_1653, q_268_1654, q_268_1655, q_268_1658, q_268_1659, q_268_1660, va_rf_s, bz_0, bz_1, bz_ok, bb_ok, Nat.add_assoc, w_lt, w_add, w_sub, w_mul, w_div, em_def, w_eq, w_inT, ↓ilt_t, ↓ilt_f, ↓ieq_t, ↓ieq_f, ntT, w_b, w_ix, kx_v, kx_n, kl_n, kl_i, kl_r, kl_o, inA_i, inA_s, inA_b, inA_z, inA_l, inA_0, inA_4, inA_5, inA_6, inA_7, inA_8, inA_9, inA_10, al_0, al_1, al_2, al_4, al_5, al_98, bsP_2, bsP_3, wr_same, wr_wr, wr_ne, up_same, up_ne, Nat.reduceAdd, Int.reduceAdd, Int.reduceSub, Int.reduceMul, Int.reduceLT, Int.reduceLE, Int.reduceEq, Int.reduceNeg, Int.reduceToNat, Nat.reduceLT, Nat.reduceLeDiff, Nat.reduceEqDiff, ↓reduceIte, true_and, and_true, not_true_eq_false, not_false_eq_true, eq_self, or_true, true_or, or_false, false_or, if_true, if_false, Int.toNat_natCast, w_ite, Nat.add_zero, reduceCtorEq, ne_eq, hc, hm, hb0, e1, v1, e2, v2, e3, v3, e4, v4]
  refine sp_258 h hf b1 b2 b3 b4 (fun S' I' L' R' G' z h' hL' hz => ?_)
  have hb1 : S' b = some (.inl (98, n)) := ((hL'.1 b hbc).1).trans hb.1
  have hI1 : I' b = I b := (hL'.1 b hbc).2
  have hm1 : S' (c + 121) = some (.inr 12) := h'.2.1.1.1
  have ho1 : S' (c + 6799) = some (.inl (1, 1)) := h'.2.2.1
  simp (disch := omega) only [q_268_1571, q_268_1572, q_268_1573, q_268_1575, q_268_1576, q_268_1577, q_268_1578, q_268_1579, q_268_1581, q_268_1582, q_268_1583, q_268_1584, q_268_1585, q_268_1587, q_268_1588, q_268_1589, q_268_1590, q_268_1591, q_268_1593, q_268_1594, q_268_1595, q_268_1596, q_268_1597, q_268_1600, q_268_1602, q_268_1603, q_268_1604, q_268_1606, q_268_1607, q_268_1608, q_268_1609, q_268_1610, q_268_1612, q_268_1613, q_268_1614, q_268_1615, q_268_1616, q_268_1618, q_268_1619, q_268_1620, q_268_1621, q_268_1622, q_268_1624, q_268_1625, q_268_1626, q_268_1627, q_268_1630, q_268_1632, q_268_1633, q_268_1636, q_268_1638, q_268_1641, q_268_1642, q_268_1643, q_268_1645, q_268_1648, q_268_1649, q_268_1650, q_268_1651, q_268_1653, q_268_1654, q_268_1655, q_268_1658, q_268_1659, q_268_1660, va_rf_s, bz_0, bz_1, bz_ok, bb_ok, Nat.add_assoc, w_lt, w_add, w_sub, w_mul, w_div, em_def, w_eq, w_inT, ↓ilt_t, ↓ilt_f, ↓ieq_t, ↓ieq_f, ntT, w_b, w_ix, kx_v, kx_n, kl_n, kl_i, kl_r, kl_o, inA_i, inA_s, inA_b, inA_z, inA_l, inA_0, inA_4, inA_5, inA_6, inA_7, inA_8, inA_9, inA_10, al_0, al_1, al_2, al_4, al_5, al_98, bsP_2, bsP_3, wr_same, wr_wr, wr_ne, up_same, up_ne, Nat.reduceAdd, Int.reduceAdd, Int.reduceSub, Int.reduceMul, Int.reduceLT, Int.reduceLE, Int.reduceEq, Int.reduceNeg, Int.reduceToNat, Nat.reduceLT, Nat.reduceLeDiff, Nat.reduceEqDiff, ↓reduceIte, true_and, and_true, not_true_eq_false, not_false_eq_true, eq_self, or_true, true_or, or_false, false_or, if_true, if_false, Int.toNat_natCast, w_ite, Nat.add_zero, reduceCtorEq, ne_eq, hm1, hb1, hI1, e1, v1, e2, v2, e3, v3, e4, v4]
  refine sp_226 h'.2.1 hf b1 b2 b3 b4 (fun I2 L2 o hM hF hA => ?_)
  obtain ⟨h2, hL2⟩ := h'.mdl hM hF
  have hout : L2 (c + 6799) = L' (c + 6799) := (hF _ (Or.inr (by omega))).2
  have s153 := fun {d : Nat} {Q : XO → Hp → Prop} => sp_153 (d := d) (Q := Q) (I := I2) (L := L2) (R := R') (G := G') hm1
  have hQ' := hQ S' I2 L2 R' G' _ (some (.int (w z))) (some (.int o)) o7 h2 (hL'.trans hL2) rWay_g
  unfold MA at hA
  cases hr : (rWay s (x (i + 1)) (x (i + 2)) (x (i + 3)) (x (i + 4))).1 with
  | inl v =>
    rw [hr] at hz hA
    obtain ⟨rfl, ez⟩ := hz
    obtain ⟨rfl, e0⟩ := hA
    rw [← hout] at ez
    simp (disch := omega) only [q_268_1571, q_268_1572, q_268_1573, q_268_1575, q_268_1576, q_268_1577, q_268_1578, q_268_1579, q_268_1581, q_268_1582, q_268_1583, q_268_1584, q_268_1585, q_268_1587, q_268_1588, q_268_1589, q_268_1590, q_268_1591, q_268_1593, q_268_1594, q_268_1595, q_268_1596, q_268_1597, q_268_1600, q_268_1602, q_268_1603, q_268_1604, q_268_1606, q_268_1607, q_268_1608, q_268_1609, q_268_1610, q_268_1612, q_268_1613, q_268_1614, q_268_1615, q_268_1616, q_268_1618, q_268_1619, q_268_1620, q_268_1621, q_268_1622, q_268_1624, q_268_1625, q_268_1626, q_268_1627, q_268_1630, q_268_1632, q_268_1633, q_268_1636, q_268_1638, q_268_1641, q_268_1642, q_268_1643, q_268_1645, q_268_1648, q_268_1649, q_268_1650, q_268_1651, q_268_1653, q_268_1654, q_268_1655, q_268_1658, q_268_1659, q_268_1660, va_rf_s, bz_0, bz_1, bz_ok, bb_ok, Nat.add_assoc, w_lt, w_add, w_sub, w_mul, w_div, em_def, w_eq, w_inT, ↓ilt_t, ↓ilt_f, ↓ieq_t, ↓ieq_f, ntT, w_b, w_ix, kx_v, kx_n, kl_n, kl_i, kl_r, kl_o, inA_i, inA_s, inA_b, inA_z, inA_l, inA_0, inA_4, inA_5, inA_6, inA_7, inA_8, inA_9, inA_10, al_0, al_1, al_2, al_4, al_5, al_98, bsP_2, bsP_3, wr_same, wr_wr, wr_ne, up_same, up_ne, Nat.reduceAdd, Int.reduceAdd, Int.reduceSub, Int.reduceMul, Int.reduceLT, Int.reduceLE, Int.reduceEq, Int.reduceNeg, Int.reduceToNat, Nat.reduceLT, Nat.reduceLeDiff, Nat.reduceEqDiff, ↓reduceIte, true_and, and_true, not_true_eq_false, not_false_eq_true, eq_self, or_true, true_or, or_false, false_or, if_true, if_false, Int.toNat_natCast, w_ite, Nat.add_zero, reduceCtorEq, ne_eq, hm1, ho1, s153, e0, ez, lg_self]
    exact hQ'
  | inr E =>
    rw [hr] at hz hA
    have e0 := hA.2
    have tb := tc_b (two := true) (E := E)
    dsimp only at hz
    rw [← hz] at e0 tb
    simp (disch := omega) only [q_268_1571, q_268_1572, q_268_1573, q_268_1575, q_268_1576, q_268_1577, q_268_1578, q_268_1579, q_268_1581, q_268_1582, q_268_1583, q_268_1584, q_268_1585, q_268_1587, q_268_1588, q_268_1589, q_268_1590, q_268_1591, q_268_1593, q_268_1594, q_268_1595, q_268_1596, q_268_1597, q_268_1600, q_268_1602, q_268_1603, q_268_1604, q_268_1606, q_268_1607, q_268_1608, q_268_1609, q_268_1610, q_268_1612, q_268_1613, q_268_1614, q_268_1615, q_268_1616, q_268_1618, q_268_1619, q_268_1620, q_268_1621, q_268_1622, q_268_1624, q_268_1625, q_268_1626, q_268_1627, q_268_1630, q_268_1632, q_268_1633, q_268_1636, q_268_1638, q_268_1641, q_268_1642, q_268_1643, q_268_1645, q_268_1648, q_268_1649, q_268_1650, q_268_1651, q_268_1653, q_268_1654, q_268_1655, q_268_1658, q_268_1659, q_268_1660, va_rf_s, bz_0, bz_1, bz_ok, bb_ok, Nat.add_assoc, w_lt, w_add, w_sub, w_mul, w_div, em_def, w_eq, w_inT, ↓ilt_t, ↓ilt_f, ↓ieq_t, ↓ieq_f, ntT, w_b, w_ix, kx_v, kx_n, kl_n, kl_i, kl_r, kl_o, inA_i, inA_s, inA_b, inA_z, inA_l, inA_0, inA_4, inA_5, inA_6, inA_7, inA_8, inA_9, inA_10, al_0, al_1, al_2, al_4, al_5, al_98, bsP_2, bsP_3, wr_same, wr_wr, wr_ne, up_same, up_ne, Nat.reduceAdd, Int.reduceAdd, Int.reduceSub, Int.reduceMul, Int.reduceLT, Int.reduceLE, Int.reduceEq, Int.reduceNeg, Int.reduceToNat, Nat.reduceLT, Nat.reduceLeDiff, Nat.reduceEqDiff, ↓reduceIte, true_and, and_true, not_true_eq_false, not_false_eq_true, eq_self, or_true, true_or, or_false, false_or, if_true, if_false, Int.toNat_natCast, w_ite, Nat.add_zero, reduceCtorEq, ne_eq, hm1, s153, e0]
    exact hQ'
theorem kd_22 (h : LB S I L R G c s s) (hf : few s) (hbc : b < c) (hb : Scr S I b n x) (hi : i + 6 ≤ n) (hn : n ≤ 3072) (hQ : KN S I G d c b i Q s) : XX (d + 80) 268 1663 [some (.ref b), some (.ref c), some (.ref (c + 121)), some (.ref (c + 6799)), some (.int (w i)), o5, o6, o7] [] (mk S I L R G) Q := by
  have hc := h.1.1.1
  have hm := h.2.1.1.1
  have hb0 := hb.1
  have e1 : ((i : Int) + 1).toNat = i + 1 := by omega
  obtain ⟨v1, b1⟩ := hb.2 (i + 1) (by omega)
  have e2 : ((i : Int) + 2).toNat = i + 2 := by omega
  obtain ⟨v2, b2⟩ := hb.2 (i + 2) (by omega)
  simp (disch := omega) only [q_268_1663, q_268_1664, q_268_1665, q_268_1667, q_268_1668, q_268_1669, q_268_1670, q_268_1671, q_268_1673, q_268_1674, q_268_1675, q_268_1676, q_268_1677, q_268_1680, q_268_1682, q_268_1683, q_268_1684, q_268_1686, q_268_1687, q_268_1688, q_268_1689, q_268_1690, q_268_1692, q_268_1693, q_268_1694, q_268_1695, q_268_1698, q_268_1700, q_268_1701, q_268_1704, q_268_1706, q_268_1709, q_268_1710, q_268_1711, q_268_1713, q_268_1716, q_268_1717, q_268_1718, q_268_1719, q_268_1721, q_268_1722, q_268_1723, q_268_1726, q_268_1727, q_268_1728, va_rf_s, bz_0, bz_1, bz_ok, bb_ok, Nat.add_assoc, w_lt, w_add, w_sub, w_mul, w_div, em_def, w_eq, w_inT, ↓ilt_t, ↓ilt_f, ↓ieq_t, ↓ieq_f, ntT, w_b, w_ix, kx_v, kx_n, kl_n, kl_i, kl_r, kl_o, inA_i, inA_s, inA_b, inA_z, inA_l, inA_0, inA_4, inA_5, inA_6, inA_7, inA_8, inA_9, inA_10, al_0, al_1, al_2, al_4, al_5, al_98, bsP_2, bsP_3, wr_same, wr_wr, wr_ne, up_same, up_ne, Nat.reduceAdd, Int.reduceAdd, Int.reduceSub, Int.reduceMul, Int.reduceLT, Int.reduceLE, Int.reduceEq, Int.reduceNeg, Int.reduceToNat, Nat.reduceLT, Nat.reduceLeDiff, Nat.reduceEqDiff, ↓reduceIte, true_and, and_true, not_true_eq_false, not_false_eq_true, eq_self, or_true, true_or, or_false, false_or, if_true, if_false, Int.toNat_natCast, w_ite, Nat.add_zero, reduceCtorEq, ne_eq, hc, hm, hb0, e1, v1, e2, v2]
  refine sp_259 h hf b1 b2 (fun S' I' L' R' G' z h' hL' hz => ?_)
  have hb1 : S' b = some (.inl (98, n)) := ((hL'.1 b hbc).1).trans hb.1
  have hI1 : I' b = I b := (hL'.1 b hbc).2
  have hm1 : S' (c + 121) = some (.inr 12) := h'.2.1.1.1
  have ho1 : S' (c + 6799) = some (.inl (1, 1)) := h'.2.2.1
  simp (disch := omega) only [q_268_1663, q_268_1664, q_268_1665, q_268_1667, q_268_1668, q_268_1669, q_268_1670, q_268_1671, q_268_1673, q_268_1674, q_268_1675, q_268_1676, q_268_1677, q_268_1680, q_268_1682, q_268_1683, q_268_1684, q_268_1686, q_268_1687, q_268_1688, q_268_1689, q_268_1690, q_268_1692, q_268_1693, q_268_1694, q_268_1695, q_268_1698, q_268_1700, q_268_1701, q_268_1704, q_268_1706, q_268_1709, q_268_1710, q_268_1711, q_268_1713, q_268_1716, q_268_1717, q_268_1718, q_268_1719, q_268_1721, q_268_1722, q_268_1723, q_268_1726, q_268_1727, q_268_1728, va_rf_s, bz_0, bz_1, bz_ok, bb_ok, Nat.add_assoc, w_lt, w_add, w_sub, w_mul, w_div, em_def, w_eq, w_inT, ↓ilt_t, ↓ilt_f, ↓ieq_t, ↓ieq_f, ntT, w_b, w_ix, kx_v, kx_n, kl_n, kl_i, kl_r, kl_o, inA_i, inA_s, inA_b, inA_z, inA_l, inA_0, inA_4, inA_5, inA_6, inA_7, inA_8, inA_9, inA_10, al_0, al_1, al_2, al_4, al_5, al_98, bsP_2, bsP_3, wr_same, wr_wr, wr_ne, up_same, up_ne, Nat.reduceAdd, Int.reduceAdd, Int.reduceSub, Int.reduceMul, Int.reduceLT, Int.reduceLE, Int.reduceEq, Int.reduceNeg, Int.reduceToNat, Nat.reduceLT, Nat.reduceLeDiff, Nat.reduceEqDiff, ↓reduceIte, true_and, and_true, not_true_eq_false, not_false_eq_true, eq_self, or_true, true_or, or_false, false_or, if_true, if_false, Int.toNat_natCast, w_ite, Nat.add_zero, reduceCtorEq, ne_eq, hm1, hb1, hI1, e1, v1, e2, v2]
  refine sp_227 h'.2.1 hf b1 b2 (fun I2 L2 o hM hF hA => ?_)
  obtain ⟨h2, hL2⟩ := h'.mdl hM hF
  have hout : L2 (c + 6799) = L' (c + 6799) := (hF _ (Or.inr (by omega))).2
  have s153 := fun {d : Nat} {Q : XO → Hp → Prop} => sp_153 (d := d) (Q := Q) (I := I2) (L := L2) (R := R') (G := G') hm1
  have hQ' := hQ S' I2 L2 R' G' _ (some (.int (w z))) (some (.int o)) o7 h2 (hL'.trans hL2) rStr_g
  unfold MA at hA
  cases hr : (rStr s (x (i + 1)) (x (i + 2))).1 with
  | inl v =>
    rw [hr] at hz hA
    obtain ⟨rfl, ez⟩ := hz
    obtain ⟨rfl, e0⟩ := hA
    rw [← hout] at ez
    simp (disch := omega) only [q_268_1663, q_268_1664, q_268_1665, q_268_1667, q_268_1668, q_268_1669, q_268_1670, q_268_1671, q_268_1673, q_268_1674, q_268_1675, q_268_1676, q_268_1677, q_268_1680, q_268_1682, q_268_1683, q_268_1684, q_268_1686, q_268_1687, q_268_1688, q_268_1689, q_268_1690, q_268_1692, q_268_1693, q_268_1694, q_268_1695, q_268_1698, q_268_1700, q_268_1701, q_268_1704, q_268_1706, q_268_1709, q_268_1710, q_268_1711, q_268_1713, q_268_1716, q_268_1717, q_268_1718, q_268_1719, q_268_1721, q_268_1722, q_268_1723, q_268_1726, q_268_1727, q_268_1728, va_rf_s, bz_0, bz_1, bz_ok, bb_ok, Nat.add_assoc, w_lt, w_add, w_sub, w_mul, w_div, em_def, w_eq, w_inT, ↓ilt_t, ↓ilt_f, ↓ieq_t, ↓ieq_f, ntT, w_b, w_ix, kx_v, kx_n, kl_n, kl_i, kl_r, kl_o, inA_i, inA_s, inA_b, inA_z, inA_l, inA_0, inA_4, inA_5, inA_6, inA_7, inA_8, inA_9, inA_10, al_0, al_1, al_2, al_4, al_5, al_98, bsP_2, bsP_3, wr_same, wr_wr, wr_ne, up_same, up_ne, Nat.reduceAdd, Int.reduceAdd, Int.reduceSub, Int.reduceMul, Int.reduceLT, Int.reduceLE, Int.reduceEq, Int.reduceNeg, Int.reduceToNat, Nat.reduceLT, Nat.reduceLeDiff, Nat.reduceEqDiff, ↓reduceIte, true_and, and_true, not_true_eq_false, not_false_eq_true, eq_self, or_true, true_or, or_false, false_or, if_true, if_false, Int.toNat_natCast, w_ite, Nat.add_zero, reduceCtorEq, ne_eq, hm1, ho1, s153, e0, ez, lg_self]
    exact hQ'
  | inr E =>
    rw [hr] at hz hA
    have e0 := hA.2
    have tb := tc_b (two := true) (E := E)
    dsimp only at hz
    rw [← hz] at e0 tb
    simp (disch := omega) only [q_268_1663, q_268_1664, q_268_1665, q_268_1667, q_268_1668, q_268_1669, q_268_1670, q_268_1671, q_268_1673, q_268_1674, q_268_1675, q_268_1676, q_268_1677, q_268_1680, q_268_1682, q_268_1683, q_268_1684, q_268_1686, q_268_1687, q_268_1688, q_268_1689, q_268_1690, q_268_1692, q_268_1693, q_268_1694, q_268_1695, q_268_1698, q_268_1700, q_268_1701, q_268_1704, q_268_1706, q_268_1709, q_268_1710, q_268_1711, q_268_1713, q_268_1716, q_268_1717, q_268_1718, q_268_1719, q_268_1721, q_268_1722, q_268_1723, q_268_1726, q_268_1727, q_268_1728, va_rf_s, bz_0, bz_1, bz_ok, bb_ok, Nat.add_assoc, w_lt, w_add, w_sub, w_mul, w_div, em_def, w_eq, w_inT, ↓ilt_t, ↓ilt_f, ↓ieq_t, ↓ieq_f, ntT, w_b, w_ix, kx_v, kx_n, kl_n, kl_i, kl_r, kl_o, inA_i, inA_s, inA_b, inA_z, inA_l, inA_0, inA_4, inA_5, inA_6, inA_7, inA_8, inA_9, inA_10, al_0, al_1, al_2, al_4, al_5, al_98, bsP_2, bsP_3, wr_same, wr_wr, wr_ne, up_same, up_ne, Nat.reduceAdd, Int.reduceAdd, Int.reduceSub, Int.reduceMul, Int.reduceLT, Int.reduceLE, Int.reduceEq, Int.reduceNeg, Int.reduceToNat, Nat.reduceLT, Nat.reduceLeDiff, Nat.reduceEqDiff, ↓reduceIte, true_and, and_true, not_true_eq_false, not_false_eq_true, eq_self, or_true, true_or, or_false, false_or, if_true, if_false, Int.toNat_natCast, w_ite, Nat.add_zero, reduceCtorEq, ne_eq, hm1, s153, e0]
    exact hQ'
theorem kd_23 (h : LB S I L R G c s s) (hf : few s) (hbc : b < c) (hb : Scr S I b n x) (hi : i + 6 ≤ n) (hn : n ≤ 3072) (hQ : KN S I G d c b i Q s) : XX (d + 80) 268 1731 [some (.ref b), some (.ref c), some (.ref (c + 121)), some (.ref (c + 6799)), some (.int (w i)), o5, o6, o7] [] (mk S I L R G) Q := by
  have hc := h.1.1.1
  have hm := h.2.1.1.1
  have hb0 := hb.1
  have e1 : ((i : Int) + 1).toNat = i + 1 := by omega
  obtain ⟨v1, b1⟩ := hb.2 (i + 1) (by omega)
  have e2 : ((i : Int) + 2).toNat = i + 2 := by omega
  obtain ⟨v2, b2⟩ := hb.2 (i + 2) (by omega)
  simp (disch := omega) only [q_268_1731, q_268_1732, q_268_1733, q_268_1735, q_268_1736, q_268_1737, q_268_1738, q_268_1739, q_268_1741, q_268_1742, q_268_1743, q_268_1744, q_268_1745, q_268_1748, q_268_1750, q_268_1751, q_268_1752, q_268_1754, q_268_1755, q_268_1756, q_268_1757, q_268_1758, q_268_1760, q_268_1761, q_268_1762, q_268_1763, q_268_1766, q_268_1768, q_268_1769, q_268_1772, q_268_1774, q_268_1777, q_268_1778, q_268_1779, q_268_1781, q_268_1784, q_268_1785, q_268_1786, q_268_1787, q_268_1789, q_268_1790, q_268_1791, q_268_1794, q_268_1795, q_268_1796, va_rf_s, bz_0, bz_1, bz_ok, bb_ok, Nat.add_assoc, w_lt, w_add, w_sub, w_mul, w_div, em_def, w_eq, w_inT, ↓ilt_t, ↓ilt_f, ↓ieq_t, ↓ieq_f, ntT, w_b, w_ix, kx_v, kx_n, kl_n, kl_i, kl_r, kl_o, inA_i, inA_s, inA_b, inA_z, inA_l, inA_0, inA_4, inA_5, inA_6, inA_7, inA_8, inA_9, inA_10, al_0, al_1, al_2, al_4, al_5, al_98, bsP_2, bsP_3, wr_same, wr_wr, wr_ne, up_same, up_ne, Nat.reduceAdd, Int.reduceAdd, Int.reduceSub, Int.reduceMul, Int.reduceLT, Int.reduceLE, Int.reduceEq, Int.reduceNeg, Int.reduceToNat, Nat.reduceLT, Nat.reduceLeDiff, Nat.reduceEqDiff, ↓reduceIte, true_and, and_true, not_true_eq_false, not_false_eq_true, eq_self, or_true, true_or, or_false, false_or, if_true, if_false, Int.toNat_natCast, w_ite, Nat.add_zero, reduceCtorEq, ne_eq, hc, hm, hb0, e1, v1, e2, v2]
  refine sp_260 h hf b1 b2 (fun S' I' L' R' G' z h' hL' hz => ?_)
  have hb1 : S' b = some (.inl (98, n)) := ((hL'.1 b hbc).1).trans hb.1
  have hI1 : I' b = I b := (hL'.1 b hbc).2
  have hm1 : S' (c + 121) = some (.inr 12) := h'.2.1.1.1
  have ho1 : S' (c + 6799) = some (.inl (1, 1)) := h'.2.2.1
  simp (disch := omega) only [q_268_1731, q_268_1732, q_268_1733, q_268_1735, q_268_1736, q_268_1737, q_268_1738, q_268_1739, q_268_1741, q_268_1742, q_268_1743, q_268_1744, q_268_1745, q_268_1748, q_268_1750, q_268_1751, q_268_1752, q_268_1754, q_268_1755, q_268_1756, q_268_1757, q_268_1758, q_268_1760, q_268_1761, q_268_1762, q_268_1763, q_268_1766, q_268_1768, q_268_1769, q_268_1772, q_268_1774, q_268_1777, q_268_1778, q_268_1779, q_268_1781, q_268_1784, q_268_1785, q_268_1786, q_268_1787, q_268_1789, q_268_1790, q_268_1791, q_268_1794, q_268_1795, q_268_1796, va_rf_s, bz_0, bz_1, bz_ok, bb_ok, Nat.add_assoc, w_lt, w_add, w_sub, w_mul, w_div, em_def, w_eq, w_inT, ↓ilt_t, ↓ilt_f, ↓ieq_t, ↓ieq_f, ntT, w_b, w_ix, kx_v, kx_n, kl_n, kl_i, kl_r, kl_o, inA_i, inA_s, inA_b, inA_z, inA_l, inA_0, inA_4, inA_5, inA_6, inA_7, inA_8, inA_9, inA_10, al_0, al_1, al_2, al_4, al_5, al_98, bsP_2, bsP_3, wr_same, wr_wr, wr_ne, up_same, up_ne, Nat.reduceAdd, Int.reduceAdd, Int.reduceSub, Int.reduceMul, Int.reduceLT, Int.reduceLE, Int.reduceEq, Int.reduceNeg, Int.reduceToNat, Nat.reduceLT, Nat.reduceLeDiff, Nat.reduceEqDiff, ↓reduceIte, true_and, and_true, not_true_eq_false, not_false_eq_true, eq_self, or_true, true_or, or_false, false_or, if_true, if_false, Int.toNat_natCast, w_ite, Nat.add_zero, reduceCtorEq, ne_eq, hm1, hb1, hI1, e1, v1, e2, v2]
  refine sp_228 h'.2.1 hf b1 b2 (fun I2 L2 o hM hF hA => ?_)
  obtain ⟨h2, hL2⟩ := h'.mdl hM hF
  have hout : L2 (c + 6799) = L' (c + 6799) := (hF _ (Or.inr (by omega))).2
  have s153 := fun {d : Nat} {Q : XO → Hp → Prop} => sp_153 (d := d) (Q := Q) (I := I2) (L := L2) (R := R') (G := G') hm1
  have hQ' := hQ S' I2 L2 R' G' _ (some (.int (w z))) (some (.int o)) o7 h2 (hL'.trans hL2) rHeard_g
  unfold MA at hA
  cases hr : (rHeard s (x (i + 1)) (x (i + 2))).1 with
  | inl v =>
    rw [hr] at hz hA
    obtain ⟨rfl, ez⟩ := hz
    obtain ⟨rfl, e0⟩ := hA
    rw [← hout] at ez
    simp (disch := omega) only [q_268_1731, q_268_1732, q_268_1733, q_268_1735, q_268_1736, q_268_1737, q_268_1738, q_268_1739, q_268_1741, q_268_1742, q_268_1743, q_268_1744, q_268_1745, q_268_1748, q_268_1750, q_268_1751, q_268_1752, q_268_1754, q_268_1755, q_268_1756, q_268_1757, q_268_1758, q_268_1760, q_268_1761, q_268_1762, q_268_1763, q_268_1766, q_268_1768, q_268_1769, q_268_1772, q_268_1774, q_268_1777, q_268_1778, q_268_1779, q_268_1781, q_268_1784, q_268_1785, q_268_1786, q_268_1787, q_268_1789, q_268_1790, q_268_1791, q_268_1794, q_268_1795, q_268_1796, va_rf_s, bz_0, bz_1, bz_ok, bb_ok, Nat.add_assoc, w_lt, w_add, w_sub, w_mul, w_div, em_def, w_eq, w_inT, ↓ilt_t, ↓ilt_f, ↓ieq_t, ↓ieq_f, ntT, w_b, w_ix, kx_v, kx_n, kl_n, kl_i, kl_r, kl_o, inA_i, inA_s, inA_b, inA_z, inA_l, inA_0, inA_4, inA_5, inA_6, inA_7, inA_8, inA_9, inA_10, al_0, al_1, al_2, al_4, al_5, al_98, bsP_2, bsP_3, wr_same, wr_wr, wr_ne, up_same, up_ne, Nat.reduceAdd, Int.reduceAdd, Int.reduceSub, Int.reduceMul, Int.reduceLT, Int.reduceLE, Int.reduceEq, Int.reduceNeg, Int.reduceToNat, Nat.reduceLT, Nat.reduceLeDiff, Nat.reduceEqDiff, ↓reduceIte, true_and, and_true, not_true_eq_false, not_false_eq_true, eq_self, or_true, true_or, or_false, false_or, if_true, if_false, Int.toNat_natCast, w_ite, Nat.add_zero, reduceCtorEq, ne_eq, hm1, ho1, s153, e0, ez, lg_self]
    exact hQ'
  | inr E =>
    rw [hr] at hz hA
    have e0 := hA.2
    have tb := tc_b (two := false) (E := E)
    dsimp only at hz
    rw [← hz] at e0 tb
    simp (disch := omega) only [q_268_1731, q_268_1732, q_268_1733, q_268_1735, q_268_1736, q_268_1737, q_268_1738, q_268_1739, q_268_1741, q_268_1742, q_268_1743, q_268_1744, q_268_1745, q_268_1748, q_268_1750, q_268_1751, q_268_1752, q_268_1754, q_268_1755, q_268_1756, q_268_1757, q_268_1758, q_268_1760, q_268_1761, q_268_1762, q_268_1763, q_268_1766, q_268_1768, q_268_1769, q_268_1772, q_268_1774, q_268_1777, q_268_1778, q_268_1779, q_268_1781, q_268_1784, q_268_1785, q_268_1786, q_268_1787, q_268_1789, q_268_1790, q_268_1791, q_268_1794, q_268_1795, q_268_1796, va_rf_s, bz_0, bz_1, bz_ok, bb_ok, Nat.add_assoc, w_lt, w_add, w_sub, w_mul, w_div, em_def, w_eq, w_inT, ↓ilt_t, ↓ilt_f, ↓ieq_t, ↓ieq_f, ntT, w_b, w_ix, kx_v, kx_n, kl_n, kl_i, kl_r, kl_o, inA_i, inA_s, inA_b, inA_z, inA_l, inA_0, inA_4, inA_5, inA_6, inA_7, inA_8, inA_9, inA_10, al_0, al_1, al_2, al_4, al_5, al_98, bsP_2, bsP_3, wr_same, wr_wr, wr_ne, up_same, up_ne, Nat.reduceAdd, Int.reduceAdd, Int.reduceSub, Int.reduceMul, Int.reduceLT, Int.reduceLE, Int.reduceEq, Int.reduceNeg, Int.reduceToNat, Nat.reduceLT, Nat.reduceLeDiff, Nat.reduceEqDiff, ↓reduceIte, true_and, and_true, not_true_eq_false, not_false_eq_true, eq_self, or_true, true_or, or_false, false_or, if_true, if_false, Int.toNat_natCast, w_ite, Nat.add_zero, reduceCtorEq, ne_eq, hm1, s153, e0]
    exact hQ'
theorem kd_25 (h : LB S I L R G c s s) (hf : few s) (hbc : b < c) (hb : Scr S I b n x) (hi : i + 6 ≤ n) (hn : n ≤ 3072) (hQ : KN S I G d c b i Q s) : XX (d + 80) 268 1812 [some (.ref b), some (.ref c), some (.ref (c + 121)), some (.ref (c + 6799)), some (.int (w i)), o5, o6, o7] [] (mk S I L R G) Q := by
  have hc := h.1.1.1
  have hm := h.2.1.1.1
  have hb0 := hb.1
  have e1 : ((i : Int) + 1).toNat = i + 1 := by omega
  obtain ⟨v1, b1⟩ := hb.2 (i + 1) (by omega)
  have e2 : ((i : Int) + 2).toNat = i + 2 := by omega
  obtain ⟨v2, b2⟩ := hb.2 (i + 2) (by omega)
  simp (disch := omega) only [q_268_1812, q_268_1813, q_268_1814, q_268_1816, q_268_1817, q_268_1818, q_268_1819, q_268_1820, q_268_1822, q_268_1823, q_268_1824, q_268_1825, q_268_1826, q_268_1829, q_268_1831, q_268_1832, q_268_1833, q_268_1835, q_268_1836, q_268_1837, q_268_1838, q_268_1839, q_268_1841, q_268_1842, q_268_1843, q_268_1844, q_268_1847, q_268_1849, q_268_1850, q_268_1853, q_268_1855, q_268_1858, q_268_1859, q_268_1860, q_268_1862, q_268_1865, q_268_1866, q_268_1867, q_268_1868, q_268_1870, q_268_1871, q_268_1872, q_268_1875, q_268_1876, q_268_1877, va_rf_s, bz_0, bz_1, bz_ok, bb_ok, Nat.add_assoc, w_lt, w_add, w_sub, w_mul, w_div, em_def, w_eq, w_inT, ↓ilt_t, ↓ilt_f, ↓ieq_t, ↓ieq_f, ntT, w_b, w_ix, kx_v, kx_n, kl_n, kl_i, kl_r, kl_o, inA_i, inA_s, inA_b, inA_z, inA_l, inA_0, inA_4, inA_5, inA_6, inA_7, inA_8, inA_9, inA_10, al_0, al_1, al_2, al_4, al_5, al_98, bsP_2, bsP_3, wr_same, wr_wr, wr_ne, up_same, up_ne, Nat.reduceAdd, Int.reduceAdd, Int.reduceSub, Int.reduceMul, Int.reduceLT, Int.reduceLE, Int.reduceEq, Int.reduceNeg, Int.reduceToNat, Nat.reduceLT, Nat.reduceLeDiff, Nat.reduceEqDiff, ↓reduceIte, true_and, and_true, not_true_eq_false, not_false_eq_true, eq_self, or_true, true_or, or_false, false_or, if_true, if_false, Int.toNat_natCast, w_ite, Nat.add_zero, reduceCtorEq, ne_eq, hc, hm, hb0, e1, v1, e2, v2]
  refine sp_261 h hf b1 b2 (fun S' I' L' R' G' z h' hL' hz => ?_)
  have hb1 : S' b = some (.inl (98, n)) := ((hL'.1 b hbc).1).trans hb.1
  have hI1 : I' b = I b := (hL'.1 b hbc).2
  have hm1 : S' (c + 121) = some (.inr 12) := h'.2.1.1.1
  have ho1 : S' (c + 6799) = some (.inl (1, 1)) := h'.2.2.1
  simp (disch := omega) only [q_268_1812, q_268_1813, q_268_1814, q_268_1816, q_268_1817, q_268_1818, q_268_1819, q_268_1820, q_268_1822, q_268_1823, q_268_1824, q_268_1825, q_268_1826, q_268_1829, q_268_1831, q_268_1832, q_268_1833, q_268_1835, q_268_1836, q_268_1837, q_268_1838, q_268_1839, q_268_1841, q_268_1842, q_268_1843, q_268_1844, q_268_1847, q_268_1849, q_268_1850, q_268_1853, q_268_1855, q_268_1858, q_268_1859, q_268_1860, q_268_1862, q_268_1865, q_268_1866, q_268_1867, q_268_1868, q_268_1870, q_268_1871, q_268_1872, q_268_1875, q_268_1876, q_268_1877, va_rf_s, bz_0, bz_1, bz_ok, bb_ok, Nat.add_assoc, w_lt, w_add, w_sub, w_mul, w_div, em_def, w_eq, w_inT, ↓ilt_t, ↓ilt_f, ↓ieq_t, ↓ieq_f, ntT, w_b, w_ix, kx_v, kx_n, kl_n, kl_i, kl_r, kl_o, inA_i, inA_s, inA_b, inA_z, inA_l, inA_0, inA_4, inA_5, inA_6, inA_7, inA_8, inA_9, inA_10, al_0, al_1, al_2, al_4, al_5, al_98, bsP_2, bsP_3, wr_same, wr_wr, wr_ne, up_same, up_ne, Nat.reduceAdd, Int.reduceAdd, Int.reduceSub, Int.reduceMul, Int.reduceLT, Int.reduceLE, Int.reduceEq, Int.reduceNeg, Int.reduceToNat, Nat.reduceLT, Nat.reduceLeDiff, Nat.reduceEqDiff, ↓reduceIte, true_and, and_true, not_true_eq_false, not_false_eq_true, eq_self, or_true, true_or, or_false, false_or, if_true, if_false, Int.toNat_natCast, w_ite, Nat.add_zero, reduceCtorEq, ne_eq, hm1, hb1, hI1, e1, v1, e2, v2]
  refine sp_216 h'.2.1 hf b1 b2 (fun I2 L2 o hM hF hA => ?_)
  obtain ⟨h2, hL2⟩ := h'.mdl hM hF
  have hout : L2 (c + 6799) = L' (c + 6799) := (hF _ (Or.inr (by omega))).2
  have s153 := fun {d : Nat} {Q : XO → Hp → Prop} => sp_153 (d := d) (Q := Q) (I := I2) (L := L2) (R := R') (G := G') hm1
  have hQ' := hQ S' I2 L2 R' G' _ (some (.int (w z))) (some (.int o)) o7 h2 (hL'.trans hL2) rLg_g
  unfold MA at hA
  cases hr : (rLg s (x (i + 1)) (fun rs => vOrder rs s.2.1.1 (x (i + 2)))).1 with
  | inl v =>
    rw [hr] at hz hA
    obtain ⟨rfl, ez⟩ := hz
    obtain ⟨rfl, e0⟩ := hA
    rw [← hout] at ez
    simp (disch := omega) only [q_268_1812, q_268_1813, q_268_1814, q_268_1816, q_268_1817, q_268_1818, q_268_1819, q_268_1820, q_268_1822, q_268_1823, q_268_1824, q_268_1825, q_268_1826, q_268_1829, q_268_1831, q_268_1832, q_268_1833, q_268_1835, q_268_1836, q_268_1837, q_268_1838, q_268_1839, q_268_1841, q_268_1842, q_268_1843, q_268_1844, q_268_1847, q_268_1849, q_268_1850, q_268_1853, q_268_1855, q_268_1858, q_268_1859, q_268_1860, q_268_1862, q_268_1865, q_268_1866, q_268_1867, q_268_1868, q_268_1870, q_268_1871, q_268_1872, q_268_1875, q_268_1876, q_268_1877, va_rf_s, bz_0, bz_1, bz_ok, bb_ok, Nat.add_assoc, w_lt, w_add, w_sub, w_mul, w_div, em_def, w_eq, w_inT, ↓ilt_t, ↓ilt_f, ↓ieq_t, ↓ieq_f, ntT, w_b, w_ix, kx_v, kx_n, kl_n, kl_i, kl_r, kl_o, inA_i, inA_s, inA_b, inA_z, inA_l, inA_0, inA_4, inA_5, inA_6, inA_7, inA_8, inA_9, inA_10, al_0, al_1, al_2, al_4, al_5, al_98, bsP_2, bsP_3, wr_same, wr_wr, wr_ne, up_same, up_ne, Nat.reduceAdd, Int.reduceAdd, Int.reduceSub, Int.reduceMul, Int.reduceLT, Int.reduceLE, Int.reduceEq, Int.reduceNeg, Int.reduceToNat, Nat.reduceLT, Nat.reduceLeDiff, Nat.reduceEqDiff, ↓reduceIte, true_and, and_true, not_true_eq_false, not_false_eq_true, eq_self, or_true, true_or, or_false, false_or, if_true, if_false, Int.toNat_natCast, w_ite, Nat.add_zero, reduceCtorEq, ne_eq, hm1, ho1, s153, e0, ez, lg_self]
    exact hQ'
  | inr E =>
    rw [hr] at hz hA
    have e0 := hA.2
    have tb := tc_b (two := false) (E := E)
    dsimp only at hz
    rw [← hz] at e0 tb
    simp (disch := omega) only [q_268_1812, q_268_1813, q_268_1814, q_268_1816, q_268_1817, q_268_1818, q_268_1819, q_268_1820, q_268_1822, q_268_1823, q_268_1824, q_268_1825, q_268_1826, q_268_1829, q_268_1831, q_268_1832, q_268_1833, q_268_1835, q_268_1836, q_268_1837, q_268_1838, q_268_1839, q_268_1841, q_268_1842, q_268_1843, q_268_1844, q_268_1847, q_268_1849, q_268_1850, q_268_1853, q_268_1855, q_268_1858, q_268_1859, q_268_1860, q_268_1862, q_268_1865, q_268_1866, q_268_1867, q_268_1868, q_268_1870, q_268_1871, q_268_1872, q_268_1875, q_268_1876, q_268_1877, va_rf_s, bz_0, bz_1, bz_ok, bb_ok, Nat.add_assoc, w_lt, w_add, w_sub, w_mul, w_div, em_def, w_eq, w_inT, ↓ilt_t, ↓ilt_f, ↓ieq_t, ↓ieq_f, ntT, w_b, w_ix, kx_v, kx_n, kl_n, kl_i, kl_r, kl_o, inA_i, inA_s, inA_b, inA_z, inA_l, inA_0, inA_4, inA_5, inA_6, inA_7, inA_8, inA_9, inA_10, al_0, al_1, al_2, al_4, al_5, al_98, bsP_2, bsP_3, wr_same, wr_wr, wr_ne, up_same, up_ne, Nat.reduceAdd, Int.reduceAdd, Int.reduceSub, Int.reduceMul, Int.reduceLT, Int.reduceLE, Int.reduceEq, Int.reduceNeg, Int.reduceToNat, Nat.reduceLT, Nat.reduceLeDiff, Nat.reduceEqDiff, ↓reduceIte, true_and, and_true, not_true_eq_false, not_false_eq_true, eq_self, or_true, true_or, or_false, false_or, if_true, if_false, Int.toNat_natCast, w_ite, Nat.add_zero, reduceCtorEq, ne_eq, hm1, s153, e0]
    exact hQ'
theorem kd_26 (h : LB S I L R G c s s) (hf : few s) (hbc : b < c) (hb : Scr S I b n x) (hi : i + 6 ≤ n) (hn : n ≤ 3072) (hQ : KN S I G d c b i Q s) : XX (d + 80) 268 1880 [some (.ref b), some (.ref c), some (.ref (c + 121)), some (.ref (c + 6799)), some (.int (w i)), o5, o6, o7] [] (mk S I L R G) Q := by
  have hc := h.1.1.1
  have hm := h.2.1.1.1
  have hb0 := hb.1
  have e1 : ((i : Int) + 1).toNat = i + 1 := by omega
  obtain ⟨v1, b1⟩ := hb.2 (i + 1) (by omega)
  have e2 : ((i : Int) + 2).toNat = i + 2 := by omega
  obtain ⟨v2, b2⟩ := hb.2 (i + 2) (by omega)
  simp (disch := omega) only [q_268_1880, q_268_1881, q_268_1882, q_268_1884, q_268_1885, q_268_1886, q_268_1887, q_268_1888, q_268_1890, q_268_1891, q_268_1892, q_268_1893, q_268_1894, q_268_1897, q_268_1899, q_268_1900, q_268_1901, q_268_1903, q_268_1904, q_268_1905, q_268_1906, q_268_1907, q_268_1909, q_268_1910, q_268_1911, q_268_1912, q_268_1915, q_268_1917, q_268_1918, q_268_1921, q_268_1923, q_268_1926, q_268_1927, q_268_1928, q_268_1930, q_268_1933, q_268_1934, q_268_1935, q_268_1936, q_268_1938, q_268_1939, q_268_1940, q_268_1943, q_268_1944, q_268_1945, va_rf_s, bz_0, bz_1, bz_ok, bb_ok, Nat.add_assoc, w_lt, w_add, w_sub, w_mul, w_div, em_def, w_eq, w_inT, ↓ilt_t, ↓ilt_f, ↓ieq_t, ↓ieq_f, ntT, w_b, w_ix, kx_v, kx_n, kl_n, kl_i, kl_r, kl_o, inA_i, inA_s, inA_b, inA_z, inA_l, inA_0, inA_4, inA_5, inA_6, inA_7, inA_8, inA_9, inA_10, al_0, al_1, al_2, al_4, al_5, al_98, bsP_2, bsP_3, wr_same, wr_wr, wr_ne, up_same, up_ne, Nat.reduceAdd, Int.reduceAdd, Int.reduceSub, Int.reduceMul, Int.reduceLT, Int.reduceLE, Int.reduceEq, Int.reduceNeg, Int.reduceToNat, Nat.reduceLT, Nat.reduceLeDiff, Nat.reduceEqDiff, ↓reduceIte, true_and, and_true, not_true_eq_false, not_false_eq_true, eq_self, or_true, true_or, or_false, false_or, if_true, if_false, Int.toNat_natCast, w_ite, Nat.add_zero, reduceCtorEq, ne_eq, hc, hm, hb0, e1, v1, e2, v2]
  refine sp_262 h hf b1 b2 (fun S' I' L' R' G' z h' hL' hz => ?_)
  have hb1 : S' b = some (.inl (98, n)) := ((hL'.1 b hbc).1).trans hb.1
  have hI1 : I' b = I b := (hL'.1 b hbc).2
  have hm1 : S' (c + 121) = some (.inr 12) := h'.2.1.1.1
  have ho1 : S' (c + 6799) = some (.inl (1, 1)) := h'.2.2.1
  simp (disch := omega) only [q_268_1880, q_268_1881, q_268_1882, q_268_1884, q_268_1885, q_268_1886, q_268_1887, q_268_1888, q_268_1890, q_268_1891, q_268_1892, q_268_1893, q_268_1894, q_268_1897, q_268_1899, q_268_1900, q_268_1901, q_268_1903, q_268_1904, q_268_1905, q_268_1906, q_268_1907, q_268_1909, q_268_1910, q_268_1911, q_268_1912, q_268_1915, q_268_1917, q_268_1918, q_268_1921, q_268_1923, q_268_1926, q_268_1927, q_268_1928, q_268_1930, q_268_1933, q_268_1934, q_268_1935, q_268_1936, q_268_1938, q_268_1939, q_268_1940, q_268_1943, q_268_1944, q_268_1945, va_rf_s, bz_0, bz_1, bz_ok, bb_ok, Nat.add_assoc, w_lt, w_add, w_sub, w_mul, w_div, em_def, w_eq, w_inT, ↓ilt_t, ↓ilt_f, ↓ieq_t, ↓ieq_f, ntT, w_b, w_ix, kx_v, kx_n, kl_n, kl_i, kl_r, kl_o, inA_i, inA_s, inA_b, inA_z, inA_l, inA_0, inA_4, inA_5, inA_6, inA_7, inA_8, inA_9, inA_10, al_0, al_1, al_2, al_4, al_5, al_98, bsP_2, bsP_3, wr_same, wr_wr, wr_ne, up_same, up_ne, Nat.reduceAdd, Int.reduceAdd, Int.reduceSub, Int.reduceMul, Int.reduceLT, Int.reduceLE, Int.reduceEq, Int.reduceNeg, Int.reduceToNat, Nat.reduceLT, Nat.reduceLeDiff, Nat.reduceEqDiff, ↓reduceIte, true_and, and_true, not_true_eq_false, not_false_eq_true, eq_self, or_true, true_or, or_false, false_or, if_true, if_false, Int.toNat_natCast, w_ite, Nat.add_zero, reduceCtorEq, ne_eq, hm1, hb1, hI1, e1, v1, e2, v2]
  refine sp_230 h'.2.1 hf b1 b2 (fun I2 L2 o hM hF hA => ?_)
  obtain ⟨h2, hL2⟩ := h'.mdl hM hF
  have hout : L2 (c + 6799) = L' (c + 6799) := (hF _ (Or.inr (by omega))).2
  have s153 := fun {d : Nat} {Q : XO → Hp → Prop} => sp_153 (d := d) (Q := Q) (I := I2) (L := L2) (R := R') (G := G') hm1
  have hQ' := hQ S' I2 L2 R' G' _ (some (.int (w z))) (some (.int o)) o7 h2 (hL'.trans hL2) rLx_g
  unfold MA at hA
  cases hr : (rLx s (x (i + 1)) (x (i + 2)) 1 (fun rs => vLong rs s.2.1.1 (x (i + 2)))).1 with
  | inl v =>
    rw [hr] at hz hA
    obtain ⟨rfl, ez⟩ := hz
    obtain ⟨rfl, e0⟩ := hA
    rw [← hout] at ez
    simp (disch := omega) only [q_268_1880, q_268_1881, q_268_1882, q_268_1884, q_268_1885, q_268_1886, q_268_1887, q_268_1888, q_268_1890, q_268_1891, q_268_1892, q_268_1893, q_268_1894, q_268_1897, q_268_1899, q_268_1900, q_268_1901, q_268_1903, q_268_1904, q_268_1905, q_268_1906, q_268_1907, q_268_1909, q_268_1910, q_268_1911, q_268_1912, q_268_1915, q_268_1917, q_268_1918, q_268_1921, q_268_1923, q_268_1926, q_268_1927, q_268_1928, q_268_1930, q_268_1933, q_268_1934, q_268_1935, q_268_1936, q_268_1938, q_268_1939, q_268_1940, q_268_1943, q_268_1944, q_268_1945, va_rf_s, bz_0, bz_1, bz_ok, bb_ok, Nat.add_assoc, w_lt, w_add, w_sub, w_mul, w_div, em_def, w_eq, w_inT, ↓ilt_t, ↓ilt_f, ↓ieq_t, ↓ieq_f, ntT, w_b, w_ix, kx_v, kx_n, kl_n, kl_i, kl_r, kl_o, inA_i, inA_s, inA_b, inA_z, inA_l, inA_0, inA_4, inA_5, inA_6, inA_7, inA_8, inA_9, inA_10, al_0, al_1, al_2, al_4, al_5, al_98, bsP_2, bsP_3, wr_same, wr_wr, wr_ne, up_same, up_ne, Nat.reduceAdd, Int.reduceAdd, Int.reduceSub, Int.reduceMul, Int.reduceLT, Int.reduceLE, Int.reduceEq, Int.reduceNeg, Int.reduceToNat, Nat.reduceLT, Nat.reduceLeDiff, Nat.reduceEqDiff, ↓reduceIte, true_and, and_true, not_true_eq_false, not_false_eq_true, eq_self, or_true, true_or, or_false, false_or, if_true, if_false, Int.toNat_natCast, w_ite, Nat.add_zero, reduceCtorEq, ne_eq, hm1, ho1, s153, e0, ez, lg_self]
    exact hQ'
  | inr E =>
    rw [hr] at hz hA
    have e0 := hA.2
    have tb := tc_b (two := true) (E := E)
    dsimp only at hz
    rw [← hz] at e0 tb
    simp (disch := omega) only [q_268_1880, q_268_1881, q_268_1882, q_268_1884, q_268_1885, q_268_1886, q_268_1887, q_268_1888, q_268_1890, q_268_1891, q_268_1892, q_268_1893, q_268_1894, q_268_1897, q_268_1899, q_268_1900, q_268_1901, q_268_1903, q_268_1904, q_268_1905, q_268_1906, q_268_1907, q_268_1909, q_268_1910, q_268_1911, q_268_1912, q_268_1915, q_268_1917, q_268_1918, q_268_1921, q_268_1923, q_268_1926, q_268_1927, q_268_1928, q_268_1930, q_268_1933, q_268_1934, q_268_1935, q_268_1936, q_268_1938, q_268_1939, q_268_1940, q_268_1943, q_268_1944, q_268_1945, va_rf_s, bz_0, bz_1, bz_ok, bb_ok, Nat.add_assoc, w_lt, w_add, w_sub, w_mul, w_div, em_def, w_eq, w_inT, ↓ilt_t, ↓ilt_f, ↓ieq_t, ↓ieq_f, ntT, w_b, w_ix, kx_v, kx_n, kl_n, kl_i, kl_r, kl_o, inA_i, inA_s, inA_b, inA_z, inA_l, inA_0, inA_4, inA_5, inA_6, inA_7, inA_8, inA_9, inA_10, al_0, al_1, al_2, al_4, al_5, al_98, bsP_2, bsP_3, wr_same, wr_wr, wr_ne, up_same, up_ne, Nat.reduceAdd, Int.reduceAdd, Int.reduceSub, Int.reduceMul, Int.reduceLT, Int.reduceLE, Int.reduceEq, Int.reduceNeg, Int.reduceToNat, Nat.reduceLT, Nat.reduceLeDiff, Nat.reduceEqDiff, ↓reduceIte, true_and, and_true, not_true_eq_false, not_false_eq_true, eq_self, or_true, true_or, or_false, false_or, if_true, if_false, Int.toNat_natCast, w_ite, Nat.add_zero, reduceCtorEq, ne_eq, hm1, s153, e0]
    exact hQ'
theorem kd_27 (h : LB S I L R G c s s) (hf : few s) (hbc : b < c) (hb : Scr S I b n x) (hi : i + 6 ≤ n) (hn : n ≤ 3072) (hQ : KN S I G d c b i Q s) : XX (d + 80) 268 1948 [some (.ref b), some (.ref c), some (.ref (c + 121)), some (.ref (c + 6799)), some (.int (w i)), o5, o6, o7] [] (mk S I L R G) Q := by
  have hc := h.1.1.1
  have hm := h.2.1.1.1
  have hb0 := hb.1
  have e1 : ((i : Int) + 1).toNat = i + 1 := by omega
  obtain ⟨v1, b1⟩ := hb.2 (i + 1) (by omega)
  have e2 : ((i : Int) + 2).toNat = i + 2 := by omega
  obtain ⟨v2, b2⟩ := hb.2 (i + 2) (by omega)
  have e3 : ((i : Int) + 3).toNat = i + 3 := by omega
  obtain ⟨v3, b3⟩ := hb.2 (i + 3) (by omega)
  simp (disch := omega) only [q_268_1948, q_268_1949, q_268_1950, q_268_1952, q_268_1953, q_268_1954, q_268_1955, q_268_1956, q_268_1958, q_268_1959, q_268_1960, q_268_1961, q_268_1962, q_268_1964, q_268_1965, q_268_1966, q_268_1967, q_268_1968, q_268_1971, q_268_1973, q_268_1974, q_268_1975, q_268_1977, q_268_1978, q_268_1979, q_268_1980, q_268_1981, q_268_1983, q_268_1984, q_268_1985, q_268_1986, q_268_1987, q_268_1989, q_268_1990, q_268_1991, q_268_1992, q_268_1995, q_268_1997, q_268_1998, q_268_2001, q_268_2003, q_268_2006, q_268_2007, q_268_2008, q_268_2010, q_268_2013, q_268_2014, q_268_2015, q_268_2016, q_268_2018, q_268_2019, q_268_2020, q_268_2023, q_268_2024, q_268_2025, va_rf_s, bz_0, bz_1, bz_ok, bb_ok, Nat.add_assoc, w_lt, w_add, w_sub, w_mul, w_div, em_def, w_eq, w_inT, ↓ilt_t, ↓ilt_f, ↓ieq_t, ↓ieq_f, ntT, w_b, w_ix, kx_v, kx_n, kl_n, kl_i, kl_r, kl_o, inA_i, inA_s, inA_b, inA_z, inA_l, inA_0, inA_4, inA_5, inA_6, inA_7, inA_8, inA_9, inA_10, al_0, al_1, al_2, al_4, al_5, al_98, bsP_2, bsP_3, wr_same, wr_wr, wr_ne, up_same, up_ne, Nat.reduceAdd, Int.reduceAdd, Int.reduceSub, Int.reduceMul, Int.reduceLT, Int.reduceLE, Int.reduceEq, Int.reduceNeg, Int.reduceToNat, Nat.reduceLT, Nat.reduceLeDiff, Nat.reduceEqDiff, ↓reduceIte, true_and, and_true, not_true_eq_false, not_false_eq_true, eq_self, or_true, true_or, or_false, false_or, if_true, if_false, Int.toNat_natCast, w_ite, Nat.add_zero, reduceCtorEq, ne_eq, hc, hm, hb0, e1, v1, e2, v2, e3, v3]
  refine sp_263 h hf b1 b2 b3 (fun S' I' L' R' G' z h' hL' hz => ?_)
  have hb1 : S' b = some (.inl (98, n)) := ((hL'.1 b hbc).1).trans hb.1
  have hI1 : I' b = I b := (hL'.1 b hbc).2
  have hm1 : S' (c + 121) = some (.inr 12) := h'.2.1.1.1
  have ho1 : S' (c + 6799) = some (.inl (1, 1)) := h'.2.2.1
  simp (disch := omega) only [q_268_1948, q_268_1949, q_268_1950, q_268_1952, q_268_1953, q_268_1954, q_268_1955, q_268_1956, q_268_1958, q_268_1959, q_268_1960, q_268_1961, q_268_1962, q_268_1964, q_268_1965, q_268_1966, q_268_1967, q_268_1968, q_268_1971, q_268_1973, q_268_1974, q_268_1975, q_268_1977, q_268_1978, q_268_1979, q_268_1980, q_268_1981, q_268_1983, q_268_1984, q_268_1985, q_268_1986, q_268_1987, q_268_1989, q_268_1990, q_268_1991, q_268_1992, q_268_1995, q_268_1997, q_268_1998, q_268_2001, q_268_2003, q_268_2006, q_268_2007, q_268_2008, q_268_2010, q_268_2013, q_268_2014, q_268_2015, q_268_2016, q_268_2018, q_268_2019, q_268_2020, q_268_2023, q_268_2024, q_268_2025, va_rf_s, bz_0, bz_1, bz_ok, bb_ok, Nat.add_assoc, w_lt, w_add, w_sub, w_mul, w_div, em_def, w_eq, w_inT, ↓ilt_t, ↓ilt_f, ↓ieq_t, ↓ieq_f, ntT, w_b, w_ix, kx_v, kx_n, kl_n, kl_i, kl_r, kl_o, inA_i, inA_s, inA_b, inA_z, inA_l, inA_0, inA_4, inA_5, inA_6, inA_7, inA_8, inA_9, inA_10, al_0, al_1, al_2, al_4, al_5, al_98, bsP_2, bsP_3, wr_same, wr_wr, wr_ne, up_same, up_ne, Nat.reduceAdd, Int.reduceAdd, Int.reduceSub, Int.reduceMul, Int.reduceLT, Int.reduceLE, Int.reduceEq, Int.reduceNeg, Int.reduceToNat, Nat.reduceLT, Nat.reduceLeDiff, Nat.reduceEqDiff, ↓reduceIte, true_and, and_true, not_true_eq_false, not_false_eq_true, eq_self, or_true, true_or, or_false, false_or, if_true, if_false, Int.toNat_natCast, w_ite, Nat.add_zero, reduceCtorEq, ne_eq, hm1, hb1, hI1, e1, v1, e2, v2, e3, v3]
  refine sp_231 h'.2.1 hf b1 b2 b3 (fun I2 L2 o hM hF hA => ?_)
  obtain ⟨h2, hL2⟩ := h'.mdl hM hF
  have hout : L2 (c + 6799) = L' (c + 6799) := (hF _ (Or.inr (by omega))).2
  have s153 := fun {d : Nat} {Q : XO → Hp → Prop} => sp_153 (d := d) (Q := Q) (I := I2) (L := L2) (R := R') (G := G') hm1
  have hQ' := hQ S' I2 L2 R' G' _ (some (.int (w z))) (some (.int o)) o7 h2 (hL'.trans hL2) rLx_g
  unfold MA at hA
  cases hr : (rLx s (x (i + 1)) (x (i + 3)) 2 (fun rs => vChain rs (x (i + 2)) (x (i + 3)))).1 with
  | inl v =>
    rw [hr] at hz hA
    obtain ⟨rfl, ez⟩ := hz
    obtain ⟨rfl, e0⟩ := hA
    rw [← hout] at ez
    simp (disch := omega) only [q_268_1948, q_268_1949, q_268_1950, q_268_1952, q_268_1953, q_268_1954, q_268_1955, q_268_1956, q_268_1958, q_268_1959, q_268_1960, q_268_1961, q_268_1962, q_268_1964, q_268_1965, q_268_1966, q_268_1967, q_268_1968, q_268_1971, q_268_1973, q_268_1974, q_268_1975, q_268_1977, q_268_1978, q_268_1979, q_268_1980, q_268_1981, q_268_1983, q_268_1984, q_268_1985, q_268_1986, q_268_1987, q_268_1989, q_268_1990, q_268_1991, q_268_1992, q_268_1995, q_268_1997, q_268_1998, q_268_2001, q_268_2003, q_268_2006, q_268_2007, q_268_2008, q_268_2010, q_268_2013, q_268_2014, q_268_2015, q_268_2016, q_268_2018, q_268_2019, q_268_2020, q_268_2023, q_268_2024, q_268_2025, va_rf_s, bz_0, bz_1, bz_ok, bb_ok, Nat.add_assoc, w_lt, w_add, w_sub, w_mul, w_div, em_def, w_eq, w_inT, ↓ilt_t, ↓ilt_f, ↓ieq_t, ↓ieq_f, ntT, w_b, w_ix, kx_v, kx_n, kl_n, kl_i, kl_r, kl_o, inA_i, inA_s, inA_b, inA_z, inA_l, inA_0, inA_4, inA_5, inA_6, inA_7, inA_8, inA_9, inA_10, al_0, al_1, al_2, al_4, al_5, al_98, bsP_2, bsP_3, wr_same, wr_wr, wr_ne, up_same, up_ne, Nat.reduceAdd, Int.reduceAdd, Int.reduceSub, Int.reduceMul, Int.reduceLT, Int.reduceLE, Int.reduceEq, Int.reduceNeg, Int.reduceToNat, Nat.reduceLT, Nat.reduceLeDiff, Nat.reduceEqDiff, ↓reduceIte, true_and, and_true, not_true_eq_false, not_false_eq_true, eq_self, or_true, true_or, or_false, false_or, if_true, if_false, Int.toNat_natCast, w_ite, Nat.add_zero, reduceCtorEq, ne_eq, hm1, ho1, s153, e0, ez, lg_self]
    exact hQ'
  | inr E =>
    rw [hr] at hz hA
    have e0 := hA.2
    have tb := tc_b (two := true) (E := E)
    dsimp only at hz
    rw [← hz] at e0 tb
    simp (disch := omega) only [q_268_1948, q_268_1949, q_268_1950, q_268_1952, q_268_1953, q_268_1954, q_268_1955, q_268_1956, q_268_1958, q_268_1959, q_268_1960, q_268_1961, q_268_1962, q_268_1964, q_268_1965, q_268_1966, q_268_1967, q_268_1968, q_268_1971, q_268_1973, q_268_1974, q_268_1975, q_268_1977, q_268_1978, q_268_1979, q_268_1980, q_268_1981, q_268_1983, q_268_1984, q_268_1985, q_268_1986, q_268_1987, q_268_1989, q_268_1990, q_268_1991, q_268_1992, q_268_1995, q_268_1997, q_268_1998, q_268_2001, q_268_2003, q_268_2006, q_268_2007, q_268_2008, q_268_2010, q_268_2013, q_268_2014, q_268_2015, q_268_2016, q_268_2018, q_268_2019, q_268_2020, q_268_2023, q_268_2024, q_268_2025, va_rf_s, bz_0, bz_1, bz_ok, bb_ok, Nat.add_assoc, w_lt, w_add, w_sub, w_mul, w_div, em_def, w_eq, w_inT, ↓ilt_t, ↓ilt_f, ↓ieq_t, ↓ieq_f, ntT, w_b, w_ix, kx_v, kx_n, kl_n, kl_i, kl_r, kl_o, inA_i, inA_s, inA_b, inA_z, inA_l, inA_0, inA_4, inA_5, inA_6, inA_7, inA_8, inA_9, inA_10, al_0, al_1, al_2, al_4, al_5, al_98, bsP_2, bsP_3, wr_same, wr_wr, wr_ne, up_same, up_ne, Nat.reduceAdd, Int.reduceAdd, Int.reduceSub, Int.reduceMul, Int.reduceLT, Int.reduceLE, Int.reduceEq, Int.reduceNeg, Int.reduceToNat, Nat.reduceLT, Nat.reduceLeDiff, Nat.reduceEqDiff, ↓reduceIte, true_and, and_true, not_true_eq_false, not_false_eq_true, eq_self, or_true, true_or, or_false, false_or, if_true, if_false, Int.toNat_natCast, w_ite, Nat.add_zero, reduceCtorEq, ne_eq, hm1, s153, e0]
    exact hQ'
theorem kd_28 (h : LB S I L R G c s s) (hf : few s) (hbc : b < c) (hb : Scr S I b n x) (hi : i + 6 ≤ n) (hn : n ≤ 3072) (hQ : KN S I G d c b i Q s) : XX (d + 80) 268 2028 [some (.ref b), some (.ref c), some (.ref (c + 121)), some (.ref (c + 6799)), some (.int (w i)), o5, o6, o7] [] (mk S I L R G) Q := by
  have hc := h.1.1.1
  have hm := h.2.1.1.1
  have hb0 := hb.1
  have e1 : ((i : Int) + 1).toNat = i + 1 := by omega
  obtain ⟨v1, b1⟩ := hb.2 (i + 1) (by omega)
  simp (disch := omega) only [q_268_2028, q_268_2029, q_268_2030, q_268_2032, q_268_2033, q_268_2034, q_268_2035, q_268_2036, q_268_2039, q_268_2041, q_268_2042, q_268_2043, q_268_2045, q_268_2046, q_268_2047, q_268_2048, q_268_2051, q_268_2053, q_268_2054, q_268_2057, q_268_2059, q_268_2062, q_268_2063, q_268_2064, q_268_2066, q_268_2069, q_268_2070, q_268_2071, q_268_2072, q_268_2074, q_268_2075, q_268_2076, q_268_2079, q_268_2080, q_268_2081, va_rf_s, bz_0, bz_1, bz_ok, bb_ok, Nat.add_assoc, w_lt, w_add, w_sub, w_mul, w_div, em_def, w_eq, w_inT, ↓ilt_t, ↓ilt_f, ↓ieq_t, ↓ieq_f, ntT, w_b, w_ix, kx_v, kx_n, kl_n, kl_i, kl_r, kl_o, inA_i, inA_s, inA_b, inA_z, inA_l, inA_0, inA_4, inA_5, inA_6, inA_7, inA_8, inA_9, inA_10, al_0, al_1, al_2, al_4, al_5, al_98, bsP_2, bsP_3, wr_same, wr_wr, wr_ne, up_same, up_ne, Nat.reduceAdd, Int.reduceAdd, Int.reduceSub, Int.reduceMul, Int.reduceLT, Int.reduceLE, Int.reduceEq, Int.reduceNeg, Int.reduceToNat, Nat.reduceLT, Nat.reduceLeDiff, Nat.reduceEqDiff, ↓reduceIte, true_and, and_true, not_true_eq_false, not_false_eq_true, eq_self, or_true, true_or, or_false, false_or, if_true, if_false, Int.toNat_natCast, w_ite, Nat.add_zero, reduceCtorEq, ne_eq, hc, hm, hb0, e1, v1]
  refine sp_264 h hf b1 (fun S' I' L' R' G' z h' hL' hz => ?_)
  have hb1 : S' b = some (.inl (98, n)) := ((hL'.1 b hbc).1).trans hb.1
  have hI1 : I' b = I b := (hL'.1 b hbc).2
  have hm1 : S' (c + 121) = some (.inr 12) := h'.2.1.1.1
  have ho1 : S' (c + 6799) = some (.inl (1, 1)) := h'.2.2.1
  simp (disch := omega) only [q_268_2028, q_268_2029, q_268_2030, q_268_2032, q_268_2033, q_268_2034, q_268_2035, q_268_2036, q_268_2039, q_268_2041, q_268_2042, q_268_2043, q_268_2045, q_268_2046, q_268_2047, q_268_2048, q_268_2051, q_268_2053, q_268_2054, q_268_2057, q_268_2059, q_268_2062, q_268_2063, q_268_2064, q_268_2066, q_268_2069, q_268_2070, q_268_2071, q_268_2072, q_268_2074, q_268_2075, q_268_2076, q_268_2079, q_268_2080, q_268_2081, va_rf_s, bz_0, bz_1, bz_ok, bb_ok, Nat.add_assoc, w_lt, w_add, w_sub, w_mul, w_div, em_def, w_eq, w_inT, ↓ilt_t, ↓ilt_f, ↓ieq_t, ↓ieq_f, ntT, w_b, w_ix, kx_v, kx_n, kl_n, kl_i, kl_r, kl_o, inA_i, inA_s, inA_b, inA_z, inA_l, inA_0, inA_4, inA_5, inA_6, inA_7, inA_8, inA_9, inA_10, al_0, al_1, al_2, al_4, al_5, al_98, bsP_2, bsP_3, wr_same, wr_wr, wr_ne, up_same, up_ne, Nat.reduceAdd, Int.reduceAdd, Int.reduceSub, Int.reduceMul, Int.reduceLT, Int.reduceLE, Int.reduceEq, Int.reduceNeg, Int.reduceToNat, Nat.reduceLT, Nat.reduceLeDiff, Nat.reduceEqDiff, ↓reduceIte, true_and, and_true, not_true_eq_false, not_false_eq_true, eq_self, or_true, true_or, or_false, false_or, if_true, if_false, Int.toNat_natCast, w_ite, Nat.add_zero, reduceCtorEq, ne_eq, hm1, hb1, hI1, e1, v1]
  refine sp_232 h'.2.1 hf b1 (fun I2 L2 o hM hF hA => ?_)
  obtain ⟨h2, hL2⟩ := h'.mdl hM hF
  have hout : L2 (c + 6799) = L' (c + 6799) := (hF _ (Or.inr (by omega))).2
  have s153 := fun {d : Nat} {Q : XO → Hp → Prop} => sp_153 (d := d) (Q := Q) (I := I2) (L := L2) (R := R') (G := G') hm1
  have hQ' := hQ S' I2 L2 R' G' _ (some (.int (w z))) (some (.int o)) o7 h2 (hL'.trans hL2) rLg_g
  unfold MA at hA
  cases hr : (rLg s (x (i + 1)) (fun rs => vFixed rs s.2.1.1)).1 with
  | inl v =>
    rw [hr] at hz hA
    obtain ⟨rfl, ez⟩ := hz
    obtain ⟨rfl, e0⟩ := hA
    rw [← hout] at ez
    simp (disch := omega) only [q_268_2028, q_268_2029, q_268_2030, q_268_2032, q_268_2033, q_268_2034, q_268_2035, q_268_2036, q_268_2039, q_268_2041, q_268_2042, q_268_2043, q_268_2045, q_268_2046, q_268_2047, q_268_2048, q_268_2051, q_268_2053, q_268_2054, q_268_2057, q_268_2059, q_268_2062, q_268_2063, q_268_2064, q_268_2066, q_268_2069, q_268_2070, q_268_2071, q_268_2072, q_268_2074, q_268_2075, q_268_2076, q_268_2079, q_268_2080, q_268_2081, va_rf_s, bz_0, bz_1, bz_ok, bb_ok, Nat.add_assoc, w_lt, w_add, w_sub, w_mul, w_div, em_def, w_eq, w_inT, ↓ilt_t, ↓ilt_f, ↓ieq_t, ↓ieq_f, ntT, w_b, w_ix, kx_v, kx_n, kl_n, kl_i, kl_r, kl_o, inA_i, inA_s, inA_b, inA_z, inA_l, inA_0, inA_4, inA_5, inA_6, inA_7, inA_8, inA_9, inA_10, al_0, al_1, al_2, al_4, al_5, al_98, bsP_2, bsP_3, wr_same, wr_wr, wr_ne, up_same, up_ne, Nat.reduceAdd, Int.reduceAdd, Int.reduceSub, Int.reduceMul, Int.reduceLT, Int.reduceLE, Int.reduceEq, Int.reduceNeg, Int.reduceToNat, Nat.reduceLT, Nat.reduceLeDiff, Nat.reduceEqDiff, ↓reduceIte, true_and, and_true, not_true_eq_false, not_false_eq_true, eq_self, or_true, true_or, or_false, false_or, if_true, if_false, Int.toNat_natCast, w_ite, Nat.add_zero, reduceCtorEq, ne_eq, hm1, ho1, s153, e0, ez, lg_self]
    exact hQ'
  | inr E =>
    rw [hr] at hz hA
    have e0 := hA.2
    have tb := tc_b (two := false) (E := E)
    dsimp only at hz
    rw [← hz] at e0 tb
    simp (disch := omega) only [q_268_2028, q_268_2029, q_268_2030, q_268_2032, q_268_2033, q_268_2034, q_268_2035, q_268_2036, q_268_2039, q_268_2041, q_268_2042, q_268_2043, q_268_2045, q_268_2046, q_268_2047, q_268_2048, q_268_2051, q_268_2053, q_268_2054, q_268_2057, q_268_2059, q_268_2062, q_268_2063, q_268_2064, q_268_2066, q_268_2069, q_268_2070, q_268_2071, q_268_2072, q_268_2074, q_268_2075, q_268_2076, q_268_2079, q_268_2080, q_268_2081, va_rf_s, bz_0, bz_1, bz_ok, bb_ok, Nat.add_assoc, w_lt, w_add, w_sub, w_mul, w_div, em_def, w_eq, w_inT, ↓ilt_t, ↓ilt_f, ↓ieq_t, ↓ieq_f, ntT, w_b, w_ix, kx_v, kx_n, kl_n, kl_i, kl_r, kl_o, inA_i, inA_s, inA_b, inA_z, inA_l, inA_0, inA_4, inA_5, inA_6, inA_7, inA_8, inA_9, inA_10, al_0, al_1, al_2, al_4, al_5, al_98, bsP_2, bsP_3, wr_same, wr_wr, wr_ne, up_same, up_ne, Nat.reduceAdd, Int.reduceAdd, Int.reduceSub, Int.reduceMul, Int.reduceLT, Int.reduceLE, Int.reduceEq, Int.reduceNeg, Int.reduceToNat, Nat.reduceLT, Nat.reduceLeDiff, Nat.reduceEqDiff, ↓reduceIte, true_and, and_true, not_true_eq_false, not_false_eq_true, eq_self, or_true, true_or, or_false, false_or, if_true, if_false, Int.toNat_natCast, w_ite, Nat.add_zero, reduceCtorEq, ne_eq, hm1, s153, e0]
    exact hQ'
theorem kd_29 (h : LB S I L R G c s s) (hf : few s) (hbc : b < c) (hb : Scr S I b n x) (hi : i + 6 ≤ n) (hn : n ≤ 3072) (hQ : KN S I G d c b i Q s) : XX (d + 80) 268 2084 [some (.ref b), some (.ref c), some (.ref (c + 121)), some (.ref (c + 6799)), some (.int (w i)), o5, o6, o7] [] (mk S I L R G) Q := by
  have hc := h.1.1.1
  have hm := h.2.1.1.1
  have hb0 := hb.1
  have e1 : ((i : Int) + 1).toNat = i + 1 := by omega
  obtain ⟨v1, b1⟩ := hb.2 (i + 1) (by omega)
  have e2 : ((i : Int) + 2).toNat = i + 2 := by omega
  obtain ⟨v2, b2⟩ := hb.2 (i + 2) (by omega)
  simp (disch := omega) only [q_268_2084, q_268_2085, q_268_2086, q_268_2088, q_268_2089, q_268_2090, q_268_2091, q_268_2092, q_268_2094, q_268_2095, q_268_2096, q_268_2097, q_268_2098, q_268_2101, q_268_2103, q_268_2104, q_268_2105, q_268_2107, q_268_2108, q_268_2109, q_268_2110, q_268_2111, q_268_2113, q_268_2114, q_268_2115, q_268_2116, q_268_2119, q_268_2121, q_268_2122, q_268_2125, q_268_2127, q_268_2130, q_268_2131, q_268_2132, q_268_2134, q_268_2137, q_268_2138, q_268_2139, q_268_2140, q_268_2142, q_268_2143, q_268_2144, q_268_2147, q_268_2148, q_268_2149, va_rf_s, bz_0, bz_1, bz_ok, bb_ok, Nat.add_assoc, w_lt, w_add, w_sub, w_mul, w_div, em_def, w_eq, w_inT, ↓ilt_t, ↓ilt_f, ↓ieq_t, ↓ieq_f, ntT, w_b, w_ix, kx_v, kx_n, kl_n, kl_i, kl_r, kl_o, inA_i, inA_s, inA_b, inA_z, inA_l, inA_0, inA_4, inA_5, inA_6, inA_7, inA_8, inA_9, inA_10, al_0, al_1, al_2, al_4, al_5, al_98, bsP_2, bsP_3, wr_same, wr_wr, wr_ne, up_same, up_ne, Nat.reduceAdd, Int.reduceAdd, Int.reduceSub, Int.reduceMul, Int.reduceLT, Int.reduceLE, Int.reduceEq, Int.reduceNeg, Int.reduceToNat, Nat.reduceLT, Nat.reduceLeDiff, Nat.reduceEqDiff, ↓reduceIte, true_and, and_true, not_true_eq_false, not_false_eq_true, eq_self, or_true, true_or, or_false, false_or, if_true, if_false, Int.toNat_natCast, w_ite, Nat.add_zero, reduceCtorEq, ne_eq, hc, hm, hb0, e1, v1, e2, v2]
  refine sp_265 h hf b1 b2 (fun S' I' L' R' G' z h' hL' hz => ?_)
  have hb1 : S' b = some (.inl (98, n)) := ((hL'.1 b hbc).1).trans hb.1
  have hI1 : I' b = I b := (hL'.1 b hbc).2
  have hm1 : S' (c + 121) = some (.inr 12) := h'.2.1.1.1
  have ho1 : S' (c + 6799) = some (.inl (1, 1)) := h'.2.2.1
  simp (disch := omega) only [q_268_2084, q_268_2085, q_268_2086, q_268_2088, q_268_2089, q_268_2090, q_268_2091, q_268_2092, q_268_2094, q_268_2095, q_268_2096, q_268_2097, q_268_2098, q_268_2101, q_268_2103, q_268_2104, q_268_2105, q_268_2107, q_268_2108, q_268_2109, q_268_2110, q_268_2111, q_268_2113, q_268_2114, q_268_2115, q_268_2116, q_268_2119, q_268_2121, q_268_2122, q_268_2125, q_268_2127, q_268_2130, q_268_2131, q_268_2132, q_268_2134, q_268_2137, q_268_2138, q_268_2139, q_268_2140, q_268_2142, q_268_2143, q_268_2144, q_268_2147, q_268_2148, q_268_2149, va_rf_s, bz_0, bz_1, bz_ok, bb_ok, Nat.add_assoc, w_lt, w_add, w_sub, w_mul, w_div, em_def, w_eq, w_inT, ↓ilt_t, ↓ilt_f, ↓ieq_t, ↓ieq_f, ntT, w_b, w_ix, kx_v, kx_n, kl_n, kl_i, kl_r, kl_o, inA_i, inA_s, inA_b, inA_z, inA_l, inA_0, inA_4, inA_5, inA_6, inA_7, inA_8, inA_9, inA_10, al_0, al_1, al_2, al_4, al_5, al_98, bsP_2, bsP_3, wr_same, wr_wr, wr_ne, up_same, up_ne, Nat.reduceAdd, Int.reduceAdd, Int.reduceSub, Int.reduceMul, Int.reduceLT, Int.reduceLE, Int.reduceEq, Int.reduceNeg, Int.reduceToNat, Nat.reduceLT, Nat.reduceLeDiff, Nat.reduceEqDiff, ↓reduceIte, true_and, and_true, not_true_eq_false, not_false_eq_true, eq_self, or_true, true_or, or_false, false_or, if_true, if_false, Int.toNat_natCast, w_ite, Nat.add_zero, reduceCtorEq, ne_eq, hm1, hb1, hI1, e1, v1, e2, v2]
  refine sp_236 h'.2.1 hf b1 b2 (fun I2 L2 o hM hF hA => ?_)
  obtain ⟨h2, hL2⟩ := h'.mdl hM hF
  have hout : L2 (c + 6799) = L' (c + 6799) := (hF _ (Or.inr (by omega))).2
  have s153 := fun {d : Nat} {Q : XO → Hp → Prop} => sp_153 (d := d) (Q := Q) (I := I2) (L := L2) (R := R') (G := G') hm1
  have hQ' := hQ S' I2 L2 R' G' _ (some (.int (w z))) (some (.int o)) o7 h2 (hL'.trans hL2) rLx_g
  unfold MA at hA
  cases hr : (rLx s (x (i + 1)) (x (i + 2)) 2 (fun rs => vWords rs s.2.1.1 (x (i + 2)))).1 with
  | inl v =>
    rw [hr] at hz hA
    obtain ⟨rfl, ez⟩ := hz
    obtain ⟨rfl, e0⟩ := hA
    rw [← hout] at ez
    simp (disch := omega) only [q_268_2084, q_268_2085, q_268_2086, q_268_2088, q_268_2089, q_268_2090, q_268_2091, q_268_2092, q_268_2094, q_268_2095, q_268_2096, q_268_2097, q_268_2098, q_268_2101, q_268_2103, q_268_2104, q_268_2105, q_268_2107, q_268_2108, q_268_2109, q_268_2110, q_268_2111, q_268_2113, q_268_2114, q_268_2115, q_268_2116, q_268_2119, q_268_2121, q_268_2122, q_268_2125, q_268_2127, q_268_2130, q_268_2131, q_268_2132, q_268_2134, q_268_2137, q_268_2138, q_268_2139, q_268_2140, q_268_2142, q_268_2143, q_268_2144, q_268_2147, q_268_2148, q_268_2149, va_rf_s, bz_0, bz_1, bz_ok, bb_ok, Nat.add_assoc, w_lt, w_add, w_sub, w_mul, w_div, em_def, w_eq, w_inT, ↓ilt_t, ↓ilt_f, ↓ieq_t, ↓ieq_f, ntT, w_b, w_ix, kx_v, kx_n, kl_n, kl_i, kl_r, kl_o, inA_i, inA_s, inA_b, inA_z, inA_l, inA_0, inA_4, inA_5, inA_6, inA_7, inA_8, inA_9, inA_10, al_0, al_1, al_2, al_4, al_5, al_98, bsP_2, bsP_3, wr_same, wr_wr, wr_ne, up_same, up_ne, Nat.reduceAdd, Int.reduceAdd, Int.reduceSub, Int.reduceMul, Int.reduceLT, Int.reduceLE, Int.reduceEq, Int.reduceNeg, Int.reduceToNat, Nat.reduceLT, Nat.reduceLeDiff, Nat.reduceEqDiff, ↓reduceIte, true_and, and_true, not_true_eq_false, not_false_eq_true, eq_self, or_true, true_or, or_false, false_or, if_true, if_false, Int.toNat_natCast, w_ite, Nat.add_zero, reduceCtorEq, ne_eq, hm1, ho1, s153, e0, ez, lg_self]
    exact hQ'
  | inr E =>
    rw [hr] at hz hA
    have e0 := hA.2
    have tb := tc_b (two := true) (E := E)
    dsimp only at hz
    rw [← hz] at e0 tb
    simp (disch := omega) only [q_268_2084, q_268_2085, q_268_2086, q_268_2088, q_268_2089, q_268_2090, q_268_2091, q_268_2092, q_268_2094, q_268_2095, q_268_2096, q_268_2097, q_268_2098, q_268_2101, q_268_2103, q_268_2104, q_268_2105, q_268_2107, q_268_2108, q_268_2109, q_268_2110, q_268_2111, q_268_2113, q_268_2114, q_268_2115, q_268_2116, q_268_2119, q_268_2121, q_268_2122, q_268_2125, q_268_2127, q_268_2130, q_268_2131, q_268_2132, q_268_2134, q_268_2137, q_268_2138, q_268_2139, q_268_2140, q_268_2142, q_268_2143, q_268_2144, q_268_2147, q_268_2148, q_268_2149, va_rf_s, bz_0, bz_1, bz_ok, bb_ok, Nat.add_assoc, w_lt, w_add, w_sub, w_mul, w_div, em_def, w_eq, w_inT, ↓ilt_t, ↓ilt_f, ↓ieq_t, ↓ieq_f, ntT, w_b, w_ix, kx_v, kx_n, kl_n, kl_i, kl_r, kl_o, inA_i, inA_s, inA_b, inA_z, inA_l, inA_0, inA_4, inA_5, inA_6, inA_7, inA_8, inA_9, inA_10, al_0, al_1, al_2, al_4, al_5, al_98, bsP_2, bsP_3, wr_same, wr_wr, wr_ne, up_same, up_ne, Nat.reduceAdd, Int.reduceAdd, Int.reduceSub, Int.reduceMul, Int.reduceLT, Int.reduceLE, Int.reduceEq, Int.reduceNeg, Int.reduceToNat, Nat.reduceLT, Nat.reduceLeDiff, Nat.reduceEqDiff, ↓reduceIte, true_and, and_true, not_true_eq_false, not_false_eq_true, eq_self, or_true, true_or, or_false, false_or, if_true, if_false, Int.toNat_natCast, w_ite, Nat.add_zero, reduceCtorEq, ne_eq, hm1, s153, e0]
    exact hQ'
theorem kd_30 (h : LB S I L R G c s s) (hf : few s) (hbc : b < c) (hb : Scr S I b n x) (hi : i + 6 ≤ n) (hn : n ≤ 3072) (hQ : KN S I G d c b i Q s) : XX (d + 80) 268 2152 [some (.ref b), some (.ref c), some (.ref (c + 121)), some (.ref (c + 6799)), some (.int (w i)), o5, o6, o7] [] (mk S I L R G) Q := by
  have hc := h.1.1.1
  have hm := h.2.1.1.1
  have hb0 := hb.1
  have e1 : ((i : Int) + 1).toNat = i + 1 := by omega
  obtain ⟨v1, b1⟩ := hb.2 (i + 1) (by omega)
  simp (disch := omega) only [q_268_2152, q_268_2153, q_268_2154, q_268_2156, q_268_2157, q_268_2158, q_268_2159, q_268_2160, q_268_2163, q_268_2165, q_268_2166, q_268_2167, q_268_2169, q_268_2170, q_268_2171, q_268_2172, q_268_2175, q_268_2177, q_268_2178, q_268_2181, q_268_2183, q_268_2186, q_268_2187, q_268_2188, q_268_2190, q_268_2193, q_268_2194, q_268_2195, q_268_2196, q_268_2198, q_268_2199, q_268_2200, q_268_2203, q_268_2204, q_268_2205, va_rf_s, bz_0, bz_1, bz_ok, bb_ok, Nat.add_assoc, w_lt, w_add, w_sub, w_mul, w_div, em_def, w_eq, w_inT, ↓ilt_t, ↓ilt_f, ↓ieq_t, ↓ieq_f, ntT, w_b, w_ix, kx_v, kx_n, kl_n, kl_i, kl_r, kl_o, inA_i, inA_s, inA_b, inA_z, inA_l, inA_0, inA_4, inA_5, inA_6, inA_7, inA_8, inA_9, inA_10, al_0, al_1, al_2, al_4, al_5, al_98, bsP_2, bsP_3, wr_same, wr_wr, wr_ne, up_same, up_ne, Nat.reduceAdd, Int.reduceAdd, Int.reduceSub, Int.reduceMul, Int.reduceLT, Int.reduceLE, Int.reduceEq, Int.reduceNeg, Int.reduceToNat, Nat.reduceLT, Nat.reduceLeDiff, Nat.reduceEqDiff, ↓reduceIte, true_and, and_true, not_true_eq_false, not_false_eq_true, eq_self, or_true, true_or, or_false, false_or, if_true, if_false, Int.toNat_natCast, w_ite, Nat.add_zero, reduceCtorEq, ne_eq, hc, hm, hb0, e1, v1]
  refine sp_266 h hf b1 (fun S' I' L' R' G' z h' hL' hz => ?_)
  have hb1 : S' b = some (.inl (98, n)) := ((hL'.1 b hbc).1).trans hb.1
  have hI1 : I' b = I b := (hL'.1 b hbc).2
  have hm1 : S' (c + 121) = some (.inr 12) := h'.2.1.1.1
  have ho1 : S' (c + 6799) = some (.inl (1, 1)) := h'.2.2.1
  simp (disch := omega) only [q_268_2152, q_268_2153, q_268_2154, q_268_2156, q_268_2157, q_268_2158, q_268_2159, q_268_2160, q_268_2163, q_268_2165, q_268_2166, q_268_2167, q_268_2169, q_268_2170, q_268_2171, q_268_2172, q_268_2175, q_268_2177, q_268_2178, q_268_2181, q_268_2183, q_268_2186, q_268_2187, q_268_2188, q_268_2190, q_268_2193, q_268_2194, q_268_2195, q_268_2196, q_268_2198, q_268_2199, q_268_2200, q_268_2203, q_268_2204, q_268_2205, va_rf_s, bz_0, bz_1, bz_ok, bb_ok, Nat.add_assoc, w_lt, w_add, w_sub, w_mul, w_div, em_def, w_eq, w_inT, ↓ilt_t, ↓ilt_f, ↓ieq_t, ↓ieq_f, ntT, w_b, w_ix, kx_v, kx_n, kl_n, kl_i, kl_r, kl_o, inA_i, inA_s, inA_b, inA_z, inA_l, inA_0, inA_4, inA_5, inA_6, inA_7, inA_8, inA_9, inA_10, al_0, al_1, al_2, al_4, al_5, al_98, bsP_2, bsP_3, wr_same, wr_wr, wr_ne, up_same, up_ne, Nat.reduceAdd, Int.reduceAdd, Int.reduceSub, Int.reduceMul, Int.reduceLT, Int.reduceLE, Int.reduceEq, Int.reduceNeg, Int.reduceToNat, Nat.reduceLT, Nat.reduceLeDiff, Nat.reduceEqDiff, ↓reduceIte, true_and, and_true, not_true_eq_false, not_false_eq_true, eq_self, or_true, true_or, or_false, false_or, if_true, if_false, Int.toNat_natCast, w_ite, Nat.add_zero, reduceCtorEq, ne_eq, hm1, hb1, hI1, e1, v1]
  refine sp_237 (two := false) h'.2.1 hf b1 (fun I2 L2 o hM hF hA => ?_)
  obtain ⟨h2, hL2⟩ := h'.mdl hM hF
  have hout : L2 (c + 6799) = L' (c + 6799) := (hF _ (Or.inr (by omega))).2
  have s153 := fun {d : Nat} {Q : XO → Hp → Prop} => sp_153 (d := d) (Q := Q) (I := I2) (L := L2) (R := R') (G := G') hm1
  have hQ' := hQ S' I2 L2 R' G' _ (some (.int (w z))) (some (.int o)) o7 h2 (hL'.trans hL2) rLg_g
  unfold MA at hA
  cases hr : (rLg s (x (i + 1)) (fun rs => vNeed rs s.2.1.1)).1 with
  | inl v =>
    rw [hr] at hz hA
    obtain ⟨rfl, ez⟩ := hz
    obtain ⟨rfl, e0⟩ := hA
    rw [← hout] at ez
    simp (disch := omega) only [q_268_2152, q_268_2153, q_268_2154, q_268_2156, q_268_2157, q_268_2158, q_268_2159, q_268_2160, q_268_2163, q_268_2165, q_268_2166, q_268_2167, q_268_2169, q_268_2170, q_268_2171, q_268_2172, q_268_2175, q_268_2177, q_268_2178, q_268_2181, q_268_2183, q_268_2186, q_268_2187, q_268_2188, q_268_2190, q_268_2193, q_268_2194, q_268_2195, q_268_2196, q_268_2198, q_268_2199, q_268_2200, q_268_2203, q_268_2204, q_268_2205, va_rf_s, bz_0, bz_1, bz_ok, bb_ok, Nat.add_assoc, w_lt, w_add, w_sub, w_mul, w_div, em_def, w_eq, w_inT, ↓ilt_t, ↓ilt_f, ↓ieq_t, ↓ieq_f, ntT, w_b, w_ix, kx_v, kx_n, kl_n, kl_i, kl_r, kl_o, inA_i, inA_s, inA_b, inA_z, inA_l, inA_0, inA_4, inA_5, inA_6, inA_7, inA_8, inA_9, inA_10, al_0, al_1, al_2, al_4, al_5, al_98, bsP_2, bsP_3, wr_same, wr_wr, wr_ne, up_same, up_ne, Nat.reduceAdd, Int.reduceAdd, Int.reduceSub, Int.reduceMul, Int.reduceLT, Int.reduceLE, Int.reduceEq, Int.reduceNeg, Int.reduceToNat, Nat.reduceLT, Nat.reduceLeDiff, Nat.reduceEqDiff, ↓reduceIte, true_and, and_true, not_true_eq_false, not_false_eq_true, eq_self, or_true, true_or, or_false, false_or, if_true, if_false, Int.toNat_natCast, w_ite, Nat.add_zero, reduceCtorEq, ne_eq, hm1, ho1, s153, e0, ez, lg_self]
    exact hQ'
  | inr E =>
    rw [hr] at hz hA
    have e0 := hA.2
    have tb := tc_b (two := false) (E := E)
    dsimp only at hz
    rw [← hz] at e0 tb
    simp (disch := omega) only [q_268_2152, q_268_2153, q_268_2154, q_268_2156, q_268_2157, q_268_2158, q_268_2159, q_268_2160, q_268_2163, q_268_2165, q_268_2166, q_268_2167, q_268_2169, q_268_2170, q_268_2171, q_268_2172, q_268_2175, q_268_2177, q_268_2178, q_268_2181, q_268_2183, q_268_2186, q_268_2187, q_268_2188, q_268_2190, q_268_2193, q_268_2194, q_268_2195, q_268_2196, q_268_2198, q_268_2199, q_268_2200, q_268_2203, q_268_2204, q_268_2205, va_rf_s, bz_0, bz_1, bz_ok, bb_ok, Nat.add_assoc, w_lt, w_add, w_sub, w_mul, w_div, em_def, w_eq, w_inT, ↓ilt_t, ↓ilt_f, ↓ieq_t, ↓ieq_f, ntT, w_b, w_ix, kx_v, kx_n, kl_n, kl_i, kl_r, kl_o, inA_i, inA_s, inA_b, inA_z, inA_l, inA_0, inA_4, inA_5, inA_6, inA_7, inA_8, inA_9, inA_10, al_0, al_1, al_2, al_4, al_5, al_98, bsP_2, bsP_3, wr_same, wr_wr, wr_ne, up_same, up_ne, Nat.reduceAdd, Int.reduceAdd, Int.reduceSub, Int.reduceMul, Int.reduceLT, Int.reduceLE, Int.reduceEq, Int.reduceNeg, Int.reduceToNat, Nat.reduceLT, Nat.reduceLeDiff, Nat.reduceEqDiff, ↓reduceIte, true_and, and_true, not_true_eq_false, not_false_eq_true, eq_self, or_true, true_or, or_false, false_or, if_true, if_false, Int.toNat_natCast, w_ite, Nat.add_zero, reduceCtorEq, ne_eq, hm1, s153, e0]
    exact hQ'
theorem rFeed_i {s : St} {x1 x2 x3 x4 x5 : Int} : ∃ v, (rFeed s x1 x2 x3 x4 x5).1 = .inl v := by
  unfold rFeed
  split
  · exact ⟨_, rfl⟩
  · exact ⟨_, rfl⟩
theorem rUndo_i {s : St} : ∃ v, (rUndo s).1 = .inl v := by
  unfold rUndo
  split
  · exact ⟨_, rfl⟩
  · exact ⟨_, rfl⟩
theorem rStatus_i {s : St} {x : Int} : ∃ v, (rStatus s x).1 = .inl v := ⟨_, rfl⟩
theorem kd_0 (h : LB S I L R G c s s) (hf : few s) (hbc : b < c) (hb : Scr S I b n x) (hi : i + 6 ≤ n) (hn : n ≤ 3072) (hQ : KN S I G d c b i Q s) : XX (d + 80) 268 188 [some (.ref b), some (.ref c), some (.ref (c + 121)), some (.ref (c + 6799)), some (.int (w i)), o5, o6, o7] [] (mk S I L R G) Q := by
  have hc := h.1.1.1
  have hm := h.2.1.1.1
  have hb0 := hb.1
  have e1 : ((i : Int) + 1).toNat = i + 1 := by omega
  obtain ⟨v1, b1⟩ := hb.2 (i + 1) (by omega)
  have e2 : ((i : Int) + 2).toNat = i + 2 := by omega
  obtain ⟨v2, b2⟩ := hb.2 (i + 2) (by omega)
  have e3 : ((i : Int) + 3).toNat = i + 3 := by omega
  obtain ⟨v3, b3⟩ := hb.2 (i + 3) (by omega)
  have e4 : ((i : Int) + 4).toNat = i + 4 := by omega
  obtain ⟨v4, b4⟩ := hb.2 (i + 4) (by omega)
  have e5 : ((i : Int) + 5).toNat = i + 5 := by omega
  obtain ⟨v5, b5⟩ := hb.2 (i + 5) (by omega)
  simp (disch := omega) only [q_268_188, q_268_189, q_268_190, q_268_192, q_268_193, q_268_194, q_268_195, q_268_196, q_268_198, q_268_199, q_268_200, q_268_201, q_268_202, q_268_204, q_268_205, q_268_206, q_268_207, q_268_208, q_268_210, q_268_211, q_268_212, q_268_213, q_268_214, q_268_216, q_268_217, q_268_218, q_268_219, q_268_222, q_268_223, q_268_224, q_268_226, q_268_227, q_268_228, q_268_229, q_268_230, q_268_232, q_268_233, q_268_234, q_268_235, q_268_236, q_268_238, q_268_239, q_268_240, q_268_241, q_268_242, q_268_244, q_268_245, q_268_246, q_268_247, q_268_248, q_268_250, q_268_251, q_268_252, q_268_253, q_268_256, q_268_259, q_268_260, va_rf_s, bz_0, bz_1, bz_ok, bb_ok, Nat.add_assoc, w_lt, w_add, w_sub, w_mul, w_div, em_def, w_eq, w_inT, ↓ilt_t, ↓ilt_f, ↓ieq_t, ↓ieq_f, ntT, w_b, w_ix, kx_v, kx_n, kl_n, kl_i, kl_r, kl_o, inA_i, inA_s, inA_b, inA_z, inA_l, inA_0, inA_4, inA_5, inA_6, inA_7, inA_8, inA_9, inA_10, al_0, al_1, al_2, al_4, al_5, al_98, bsP_2, bsP_3, wr_same, wr_wr, wr_ne, up_same, up_ne, Nat.reduceAdd, Int.reduceAdd, Int.reduceSub, Int.reduceMul, Int.reduceLT, Int.reduceLE, Int.reduceEq, Int.reduceNeg, Int.reduceToNat, Nat.reduceLT, Nat.reduceLeDiff, Nat.reduceEqDiff, ↓reduceIte, true_and, and_true, not_true_eq_false, not_false_eq_true, eq_self, or_true, true_or, or_false, false_or, if_true, if_false, Int.toNat_natCast, w_ite, Nat.add_zero, reduceCtorEq, ne_eq, hc, hm, hb0, e1, v1, e2, v2, e3, v3, e4, v4, e5, v5]
  refine sp_105 h.1 b1 b2 b3 b4 b5 (fun S' I' L' R' G' hC hF1 => ?_)
  obtain ⟨h', hL'⟩ := h.cls hC hF1
  have hb1 : S' b = some (.inl (98, n)) := ((hL'.1 b hbc).1).trans hb.1
  have hI1 : I' b = I b := (hL'.1 b hbc).2
  have hm1 : S' (c + 121) = some (.inr 12) := h'.2.1.1.1
  have ho1 : S' (c + 6799) = some (.inl (1, 1)) := h'.2.2.1
  obtain ⟨v, hv⟩ := rFeed_i (s := s) (x1 := x (i + 1)) (x2 := x (i + 2)) (x3 := x (i + 3)) (x4 := x (i + 4)) (x5 := x (i + 5))
  rw [hv]
  unfold outX
  simp (disch := omega) only [q_268_188, q_268_189, q_268_190, q_268_192, q_268_193, q_268_194, q_268_195, q_268_196, q_268_198, q_268_199, q_268_200, q_268_201, q_268_202, q_268_204, q_268_205, q_268_206, q_268_207, q_268_208, q_268_210, q_268_211, q_268_212, q_268_213, q_268_214, q_268_216, q_268_217, q_268_218, q_268_219, q_268_222, q_268_223, q_268_224, q_268_226, q_268_227, q_268_228, q_268_229, q_268_230, q_268_232, q_268_233, q_268_234, q_268_235, q_268_236, q_268_238, q_268_239, q_268_240, q_268_241, q_268_242, q_268_244, q_268_245, q_268_246, q_268_247, q_268_248, q_268_250, q_268_251, q_268_252, q_268_253, q_268_256, q_268_259, q_268_260, va_rf_s, bz_0, bz_1, bz_ok, bb_ok, Nat.add_assoc, w_lt, w_add, w_sub, w_mul, w_div, em_def, w_eq, w_inT, ↓ilt_t, ↓ilt_f, ↓ieq_t, ↓ieq_f, ntT, w_b, w_ix, kx_v, kx_n, kl_n, kl_i, kl_r, kl_o, inA_i, inA_s, inA_b, inA_z, inA_l, inA_0, inA_4, inA_5, inA_6, inA_7, inA_8, inA_9, inA_10, al_0, al_1, al_2, al_4, al_5, al_98, bsP_2, bsP_3, wr_same, wr_wr, wr_ne, up_same, up_ne, Nat.reduceAdd, Int.reduceAdd, Int.reduceSub, Int.reduceMul, Int.reduceLT, Int.reduceLE, Int.reduceEq, Int.reduceNeg, Int.reduceToNat, Nat.reduceLT, Nat.reduceLeDiff, Nat.reduceEqDiff, ↓reduceIte, true_and, and_true, not_true_eq_false, not_false_eq_true, eq_self, or_true, true_or, or_false, false_or, if_true, if_false, Int.toNat_natCast, w_ite, Nat.add_zero, reduceCtorEq, ne_eq, hm1, hb1, hI1, e1, v1, e2, v2, e3, v3, e4, v4, e5, v5]
  refine sp_157 (two := true) h'.2.1 b1 b2 b3 b4 b5 (fun I2 L2 o hM hF hA => ?_)
  obtain ⟨h2, hL2⟩ := h'.mdl hM hF
  have hQ' := hQ S' I2 L2 R' G' _ o5 o6 o7 h2 (hL'.trans hL2) rFeed_g
  rw [hv] at hA
  obtain ⟨rfl, e0⟩ := hA
  simp (disch := omega) only [q_268_188, q_268_189, q_268_190, q_268_192, q_268_193, q_268_194, q_268_195, q_268_196, q_268_198, q_268_199, q_268_200, q_268_201, q_268_202, q_268_204, q_268_205, q_268_206, q_268_207, q_268_208, q_268_210, q_268_211, q_268_212, q_268_213, q_268_214, q_268_216, q_268_217, q_268_218, q_268_219, q_268_222, q_268_223, q_268_224, q_268_226, q_268_227, q_268_228, q_268_229, q_268_230, q_268_232, q_268_233, q_268_234, q_268_235, q_268_236, q_268_238, q_268_239, q_268_240, q_268_241, q_268_242, q_268_244, q_268_245, q_268_246, q_268_247, q_268_248, q_268_250, q_268_251, q_268_252, q_268_253, q_268_256, q_268_259, q_268_260, va_rf_s, bz_0, bz_1, bz_ok, bb_ok, Nat.add_assoc, w_lt, w_add, w_sub, w_mul, w_div, em_def, w_eq, w_inT, ↓ilt_t, ↓ilt_f, ↓ieq_t, ↓ieq_f, ntT, w_b, w_ix, kx_v, kx_n, kl_n, kl_i, kl_r, kl_o, inA_i, inA_s, inA_b, inA_z, inA_l, inA_0, inA_4, inA_5, inA_6, inA_7, inA_8, inA_9, inA_10, al_0, al_1, al_2, al_4, al_5, al_98, bsP_2, bsP_3, wr_same, wr_wr, wr_ne, up_same, up_ne, Nat.reduceAdd, Int.reduceAdd, Int.reduceSub, Int.reduceMul, Int.reduceLT, Int.reduceLE, Int.reduceEq, Int.reduceNeg, Int.reduceToNat, Nat.reduceLT, Nat.reduceLeDiff, Nat.reduceEqDiff, ↓reduceIte, true_and, and_true, not_true_eq_false, not_false_eq_true, eq_self, or_true, true_or, or_false, false_or, if_true, if_false, Int.toNat_natCast, w_ite, Nat.add_zero, reduceCtorEq, ne_eq]
  exact hQ'
theorem kd_2 (h : LB S I L R G c s s) (hf : few s) (hbc : b < c) (hb : Scr S I b n x) (hi : i + 6 ≤ n) (hn : n ≤ 3072) (hQ : KN S I G d c b i Q s) : XX (d + 80) 268 317 [some (.ref b), some (.ref c), some (.ref (c + 121)), some (.ref (c + 6799)), some (.int (w i)), o5, o6, o7] [] (mk S I L R G) Q := by
  have hc := h.1.1.1
  have hm := h.2.1.1.1
  have hb0 := hb.1
  simp (disch := omega) only [q_268_317, q_268_318, q_268_321, q_268_322, q_268_325, q_268_328, q_268_329, va_rf_s, bz_0, bz_1, bz_ok, bb_ok, Nat.add_assoc, w_lt, w_add, w_sub, w_mul, w_div, em_def, w_eq, w_inT, ↓ilt_t, ↓ilt_f, ↓ieq_t, ↓ieq_f, ntT, w_b, w_ix, kx_v, kx_n, kl_n, kl_i, kl_r, kl_o, inA_i, inA_s, inA_b, inA_z, inA_l, inA_0, inA_4, inA_5, inA_6, inA_7, inA_8, inA_9, inA_10, al_0, al_1, al_2, al_4, al_5, al_98, bsP_2, bsP_3, wr_same, wr_wr, wr_ne, up_same, up_ne, Nat.reduceAdd, Int.reduceAdd, Int.reduceSub, Int.reduceMul, Int.reduceLT, Int.reduceLE, Int.reduceEq, Int.reduceNeg, Int.reduceToNat, Nat.reduceLT, Nat.reduceLeDiff, Nat.reduceEqDiff, ↓reduceIte, true_and, and_true, not_true_eq_false, not_false_eq_true, eq_self, or_true, true_or, or_false, false_or, if_true, if_false, Int.toNat_natCast, w_ite, Nat.add_zero, reduceCtorEq, ne_eq, hc, hm, hb0]
  refine sp_107 h.1  (fun S' I' L' R' G' hC hF1 => ?_)
  obtain ⟨h', hL'⟩ := h.cls hC hF1
  have hb1 : S' b = some (.inl (98, n)) := ((hL'.1 b hbc).1).trans hb.1
  have hI1 : I' b = I b := (hL'.1 b hbc).2
  have hm1 : S' (c + 121) = some (.inr 12) := h'.2.1.1.1
  have ho1 : S' (c + 6799) = some (.inl (1, 1)) := h'.2.2.1
  unfold outX
  simp (disch := omega) only [q_268_317, q_268_318, q_268_321, q_268_322, q_268_325, q_268_328, q_268_329, va_rf_s, bz_0, bz_1, bz_ok, bb_ok, Nat.add_assoc, w_lt, w_add, w_sub, w_mul, w_div, em_def, w_eq, w_inT, ↓ilt_t, ↓ilt_f, ↓ieq_t, ↓ieq_f, ntT, w_b, w_ix, kx_v, kx_n, kl_n, kl_i, kl_r, kl_o, inA_i, inA_s, inA_b, inA_z, inA_l, inA_0, inA_4, inA_5, inA_6, inA_7, inA_8, inA_9, inA_10, al_0, al_1, al_2, al_4, al_5, al_98, bsP_2, bsP_3, wr_same, wr_wr, wr_ne, up_same, up_ne, Nat.reduceAdd, Int.reduceAdd, Int.reduceSub, Int.reduceMul, Int.reduceLT, Int.reduceLE, Int.reduceEq, Int.reduceNeg, Int.reduceToNat, Nat.reduceLT, Nat.reduceLeDiff, Nat.reduceEqDiff, ↓reduceIte, true_and, and_true, not_true_eq_false, not_false_eq_true, eq_self, or_true, true_or, or_false, false_or, if_true, if_false, Int.toNat_natCast, w_ite, Nat.add_zero, reduceCtorEq, ne_eq, hm1, hb1, hI1]
  refine sp_178 (two := true) h'.2.1 (fun I2 L2 o hM hF hA => ?_)
  obtain ⟨h2, hL2⟩ := h'.mdl hM hF
  have hQ' := hQ S' I2 L2 R' G' _ o5 o6 o7 h2 (hL'.trans hL2) ⟨Nat.le_succ _, Nat.le_succ _⟩
  obtain ⟨rfl, e0⟩ := hA
  simp (disch := omega) only [q_268_317, q_268_318, q_268_321, q_268_322, q_268_325, q_268_328, q_268_329, va_rf_s, bz_0, bz_1, bz_ok, bb_ok, Nat.add_assoc, w_lt, w_add, w_sub, w_mul, w_div, em_def, w_eq, w_inT, ↓ilt_t, ↓ilt_f, ↓ieq_t, ↓ieq_f, ntT, w_b, w_ix, kx_v, kx_n, kl_n, kl_i, kl_r, kl_o, inA_i, inA_s, inA_b, inA_z, inA_l, inA_0, inA_4, inA_5, inA_6, inA_7, inA_8, inA_9, inA_10, al_0, al_1, al_2, al_4, al_5, al_98, bsP_2, bsP_3, wr_same, wr_wr, wr_ne, up_same, up_ne, Nat.reduceAdd, Int.reduceAdd, Int.reduceSub, Int.reduceMul, Int.reduceLT, Int.reduceLE, Int.reduceEq, Int.reduceNeg, Int.reduceToNat, Nat.reduceLT, Nat.reduceLeDiff, Nat.reduceEqDiff, ↓reduceIte, true_and, and_true, not_true_eq_false, not_false_eq_true, eq_self, or_true, true_or, or_false, false_or, if_true, if_false, Int.toNat_natCast, w_ite, Nat.add_zero, reduceCtorEq, ne_eq]
  exact hQ'
theorem kd_7 (h : LB S I L R G c s s) (hf : few s) (hbc : b < c) (hb : Scr S I b n x) (hi : i + 6 ≤ n) (hn : n ≤ 3072) (hQ : KN S I G d c b i Q s) : XX (d + 80) 268 578 [some (.ref b), some (.ref c), some (.ref (c + 121)), some (.ref (c + 6799)), some (.int (w i)), o5, o6, o7] [] (mk S I L R G) Q := by
  have hc := h.1.1.1
  have hm := h.2.1.1.1
  have hb0 := hb.1
  simp (disch := omega) only [q_268_578, q_268_579, q_268_582, q_268_583, q_268_586, q_268_589, q_268_590, va_rf_s, bz_0, bz_1, bz_ok, bb_ok, Nat.add_assoc, w_lt, w_add, w_sub, w_mul, w_div, em_def, w_eq, w_inT, ↓ilt_t, ↓ilt_f, ↓ieq_t, ↓ieq_f, ntT, w_b, w_ix, kx_v, kx_n, kl_n, kl_i, kl_r, kl_o, inA_i, inA_s, inA_b, inA_z, inA_l, inA_0, inA_4, inA_5, inA_6, inA_7, inA_8, inA_9, inA_10, al_0, al_1, al_2, al_4, al_5, al_98, bsP_2, bsP_3, wr_same, wr_wr, wr_ne, up_same, up_ne, Nat.reduceAdd, Int.reduceAdd, Int.reduceSub, Int.reduceMul, Int.reduceLT, Int.reduceLE, Int.reduceEq, Int.reduceNeg, Int.reduceToNat, Nat.reduceLT, Nat.reduceLeDiff, Nat.reduceEqDiff, ↓reduceIte, true_and, and_true, not_true_eq_false, not_false_eq_true, eq_self, or_true, true_or, or_false, false_or, if_true, if_false, Int.toNat_natCast, w_ite, Nat.add_zero, reduceCtorEq, ne_eq, hc, hm, hb0]
  refine sp_113 h.1  (fun S' I' L' R' G' hC hF1 => ?_)
  obtain ⟨h', hL'⟩ := h.cls hC hF1
  have hb1 : S' b = some (.inl (98, n)) := ((hL'.1 b hbc).1).trans hb.1
  have hI1 : I' b = I b := (hL'.1 b hbc).2
  have hm1 : S' (c + 121) = some (.inr 12) := h'.2.1.1.1
  have ho1 : S' (c + 6799) = some (.inl (1, 1)) := h'.2.2.1
  obtain ⟨v, hv⟩ := rUndo_i (s := s)
  rw [hv]
  unfold outX
  simp (disch := omega) only [q_268_578, q_268_579, q_268_582, q_268_583, q_268_586, q_268_589, q_268_590, va_rf_s, bz_0, bz_1, bz_ok, bb_ok, Nat.add_assoc, w_lt, w_add, w_sub, w_mul, w_div, em_def, w_eq, w_inT, ↓ilt_t, ↓ilt_f, ↓ieq_t, ↓ieq_f, ntT, w_b, w_ix, kx_v, kx_n, kl_n, kl_i, kl_r, kl_o, inA_i, inA_s, inA_b, inA_z, inA_l, inA_0, inA_4, inA_5, inA_6, inA_7, inA_8, inA_9, inA_10, al_0, al_1, al_2, al_4, al_5, al_98, bsP_2, bsP_3, wr_same, wr_wr, wr_ne, up_same, up_ne, Nat.reduceAdd, Int.reduceAdd, Int.reduceSub, Int.reduceMul, Int.reduceLT, Int.reduceLE, Int.reduceEq, Int.reduceNeg, Int.reduceToNat, Nat.reduceLT, Nat.reduceLeDiff, Nat.reduceEqDiff, ↓reduceIte, true_and, and_true, not_true_eq_false, not_false_eq_true, eq_self, or_true, true_or, or_false, false_or, if_true, if_false, Int.toNat_natCast, w_ite, Nat.add_zero, reduceCtorEq, ne_eq, hm1, hb1, hI1]
  refine sp_180 (two := true) h'.2.1  (fun I2 L2 o hM hF hA => ?_)
  obtain ⟨h2, hL2⟩ := h'.mdl hM hF
  have hQ' := hQ S' I2 L2 R' G' _ o5 o6 o7 h2 (hL'.trans hL2) rUndo_g
  rw [hv] at hA
  obtain ⟨rfl, e0⟩ := hA
  simp (disch := omega) only [q_268_578, q_268_579, q_268_582, q_268_583, q_268_586, q_268_589, q_268_590, va_rf_s, bz_0, bz_1, bz_ok, bb_ok, Nat.add_assoc, w_lt, w_add, w_sub, w_mul, w_div, em_def, w_eq, w_inT, ↓ilt_t, ↓ilt_f, ↓ieq_t, ↓ieq_f, ntT, w_b, w_ix, kx_v, kx_n, kl_n, kl_i, kl_r, kl_o, inA_i, inA_s, inA_b, inA_z, inA_l, inA_0, inA_4, inA_5, inA_6, inA_7, inA_8, inA_9, inA_10, al_0, al_1, al_2, al_4, al_5, al_98, bsP_2, bsP_3, wr_same, wr_wr, wr_ne, up_same, up_ne, Nat.reduceAdd, Int.reduceAdd, Int.reduceSub, Int.reduceMul, Int.reduceLT, Int.reduceLE, Int.reduceEq, Int.reduceNeg, Int.reduceToNat, Nat.reduceLT, Nat.reduceLeDiff, Nat.reduceEqDiff, ↓reduceIte, true_and, and_true, not_true_eq_false, not_false_eq_true, eq_self, or_true, true_or, or_false, false_or, if_true, if_false, Int.toNat_natCast, w_ite, Nat.add_zero, reduceCtorEq, ne_eq]
  exact hQ'
theorem kd_24 (h : LB S I L R G c s s) (hf : few s) (hbc : b < c) (hb : Scr S I b n x) (hi : i + 6 ≤ n) (hn : n ≤ 3072) (hQ : KN S I G d c b i Q s) : XX (d + 80) 268 1799 [some (.ref b), some (.ref c), some (.ref (c + 121)), some (.ref (c + 6799)), some (.int (w i)), o5, o6, o7] [] (mk S I L R G) Q := by
  have hc := h.1.1.1
  have hm := h.2.1.1.1
  have hb0 := hb.1
  simp (disch := omega) only [q_268_1799, q_268_1800, q_268_1803, q_268_1804, q_268_1807, q_268_1810, q_268_1811, va_rf_s, bz_0, bz_1, bz_ok, bb_ok, Nat.add_assoc, w_lt, w_add, w_sub, w_mul, w_div, em_def, w_eq, w_inT, ↓ilt_t, ↓ilt_f, ↓ieq_t, ↓ieq_f, ntT, w_b, w_ix, kx_v, kx_n, kl_n, kl_i, kl_r, kl_o, inA_i, inA_s, inA_b, inA_z, inA_l, inA_0, inA_4, inA_5, inA_6, inA_7, inA_8, inA_9, inA_10, al_0, al_1, al_2, al_4, al_5, al_98, bsP_2, bsP_3, wr_same, wr_wr, wr_ne, up_same, up_ne, Nat.reduceAdd, Int.reduceAdd, Int.reduceSub, Int.reduceMul, Int.reduceLT, Int.reduceLE, Int.reduceEq, Int.reduceNeg, Int.reduceToNat, Nat.reduceLT, Nat.reduceLeDiff, Nat.reduceEqDiff, ↓reduceIte, true_and, and_true, not_true_eq_false, not_false_eq_true, eq_self, or_true, true_or, or_false, false_or, if_true, if_false, Int.toNat_natCast, w_ite, Nat.add_zero, reduceCtorEq, ne_eq, hc, hm, hb0]
  refine sp_131 h.1  (fun S' I' L' R' G' hC hF1 => ?_)
  obtain ⟨h', hL'⟩ := h.cls hC hF1
  have hb1 : S' b = some (.inl (98, n)) := ((hL'.1 b hbc).1).trans hb.1
  have hI1 : I' b = I b := (hL'.1 b hbc).2
  have hm1 : S' (c + 121) = some (.inr 12) := h'.2.1.1.1
  have ho1 : S' (c + 6799) = some (.inl (1, 1)) := h'.2.2.1
  unfold outX
  simp (disch := omega) only [q_268_1799, q_268_1800, q_268_1803, q_268_1804, q_268_1807, q_268_1810, q_268_1811, va_rf_s, bz_0, bz_1, bz_ok, bb_ok, Nat.add_assoc, w_lt, w_add, w_sub, w_mul, w_div, em_def, w_eq, w_inT, ↓ilt_t, ↓ilt_f, ↓ieq_t, ↓ieq_f, ntT, w_b, w_ix, kx_v, kx_n, kl_n, kl_i, kl_r, kl_o, inA_i, inA_s, inA_b, inA_z, inA_l, inA_0, inA_4, inA_5, inA_6, inA_7, inA_8, inA_9, inA_10, al_0, al_1, al_2, al_4, al_5, al_98, bsP_2, bsP_3, wr_same, wr_wr, wr_ne, up_same, up_ne, Nat.reduceAdd, Int.reduceAdd, Int.reduceSub, Int.reduceMul, Int.reduceLT, Int.reduceLE, Int.reduceEq, Int.reduceNeg, Int.reduceToNat, Nat.reduceLT, Nat.reduceLeDiff, Nat.reduceEqDiff, ↓reduceIte, true_and, and_true, not_true_eq_false, not_false_eq_true, eq_self, or_true, true_or, or_false, false_or, if_true, if_false, Int.toNat_natCast, w_ite, Nat.add_zero, reduceCtorEq, ne_eq, hm1, hb1, hI1]
  refine sp_229 (two := true) h'.2.1 (fun I2 L2 o hM hF hA => ?_)
  obtain ⟨h2, hL2⟩ := h'.mdl hM hF
  have hQ' := hQ S' I2 L2 R' G' _ o5 o6 o7 h2 (hL'.trans hL2) ⟨Nat.le_succ _, Nat.le_succ _⟩
  obtain ⟨rfl, e0⟩ := hA
  simp (disch := omega) only [q_268_1799, q_268_1800, q_268_1803, q_268_1804, q_268_1807, q_268_1810, q_268_1811, va_rf_s, bz_0, bz_1, bz_ok, bb_ok, Nat.add_assoc, w_lt, w_add, w_sub, w_mul, w_div, em_def, w_eq, w_inT, ↓ilt_t, ↓ilt_f, ↓ieq_t, ↓ieq_f, ntT, w_b, w_ix, kx_v, kx_n, kl_n, kl_i, kl_r, kl_o, inA_i, inA_s, inA_b, inA_z, inA_l, inA_0, inA_4, inA_5, inA_6, inA_7, inA_8, inA_9, inA_10, al_0, al_1, al_2, al_4, al_5, al_98, bsP_2, bsP_3, wr_same, wr_wr, wr_ne, up_same, up_ne, Nat.reduceAdd, Int.reduceAdd, Int.reduceSub, Int.reduceMul, Int.reduceLT, Int.reduceLE, Int.reduceEq, Int.reduceNeg, Int.reduceToNat, Nat.reduceLT, Nat.reduceLeDiff, Nat.reduceEqDiff, ↓reduceIte, true_and, and_true, not_true_eq_false, not_false_eq_true, eq_self, or_true, true_or, or_false, false_or, if_true, if_false, Int.toNat_natCast, w_ite, Nat.add_zero, reduceCtorEq, ne_eq]
  exact hQ'
theorem kd_32 (h : LB S I L R G c s s) (hf : few s) (hbc : b < c) (hb : Scr S I b n x) (hi : i + 6 ≤ n) (hn : n ≤ 3072) (hQ : KN S I G d c b i Q s) : XX (d + 80) 268 2263 [some (.ref b), some (.ref c), some (.ref (c + 121)), some (.ref (c + 6799)), some (.int (w i)), o5, o6, o7] [] (mk S I L R G) Q := by
  have hc := h.1.1.1
  have hm := h.2.1.1.1
  have hb0 := hb.1
  have e1 : ((i : Int) + 1).toNat = i + 1 := by omega
  obtain ⟨v1, b1⟩ := hb.2 (i + 1) (by omega)
  simp (disch := omega) only [q_268_2263, q_268_2264, q_268_2265, q_268_2267, q_268_2268, q_268_2269, q_268_2270, q_268_2273, q_268_2274, q_268_2275, q_268_2277, q_268_2278, q_268_2279, q_268_2280, q_268_2283, q_268_2286, q_268_2287, va_rf_s, bz_0, bz_1, bz_ok, bb_ok, Nat.add_assoc, w_lt, w_add, w_sub, w_mul, w_div, em_def, w_eq, w_inT, ↓ilt_t, ↓ilt_f, ↓ieq_t, ↓ieq_f, ntT, w_b, w_ix, kx_v, kx_n, kl_n, kl_i, kl_r, kl_o, inA_i, inA_s, inA_b, inA_z, inA_l, inA_0, inA_4, inA_5, inA_6, inA_7, inA_8, inA_9, inA_10, al_0, al_1, al_2, al_4, al_5, al_98, bsP_2, bsP_3, wr_same, wr_wr, wr_ne, up_same, up_ne, Nat.reduceAdd, Int.reduceAdd, Int.reduceSub, Int.reduceMul, Int.reduceLT, Int.reduceLE, Int.reduceEq, Int.reduceNeg, Int.reduceToNat, Nat.reduceLT, Nat.reduceLeDiff, Nat.reduceEqDiff, ↓reduceIte, true_and, and_true, not_true_eq_false, not_false_eq_true, eq_self, or_true, true_or, or_false, false_or, if_true, if_false, Int.toNat_natCast, w_ite, Nat.add_zero, reduceCtorEq, ne_eq, hc, hm, hb0, e1, v1]
  refine sp_140 h.1 b1 (fun S' I' L' R' G' hC hF1 => ?_)
  obtain ⟨h', hL'⟩ := h.cls hC hF1
  have hb1 : S' b = some (.inl (98, n)) := ((hL'.1 b hbc).1).trans hb.1
  have hI1 : I' b = I b := (hL'.1 b hbc).2
  have hm1 : S' (c + 121) = some (.inr 12) := h'.2.1.1.1
  have ho1 : S' (c + 6799) = some (.inl (1, 1)) := h'.2.2.1
  obtain ⟨v, hv⟩ := rStatus_i (s := s) (x := x (i + 1))
  rw [hv]
  unfold outX
  simp (disch := omega) only [q_268_2263, q_268_2264, q_268_2265, q_268_2267, q_268_2268, q_268_2269, q_268_2270, q_268_2273, q_268_2274, q_268_2275, q_268_2277, q_268_2278, q_268_2279, q_268_2280, q_268_2283, q_268_2286, q_268_2287, va_rf_s, bz_0, bz_1, bz_ok, bb_ok, Nat.add_assoc, w_lt, w_add, w_sub, w_mul, w_div, em_def, w_eq, w_inT, ↓ilt_t, ↓ilt_f, ↓ieq_t, ↓ieq_f, ntT, w_b, w_ix, kx_v, kx_n, kl_n, kl_i, kl_r, kl_o, inA_i, inA_s, inA_b, inA_z, inA_l, inA_0, inA_4, inA_5, inA_6, inA_7, inA_8, inA_9, inA_10, al_0, al_1, al_2, al_4, al_5, al_98, bsP_2, bsP_3, wr_same, wr_wr, wr_ne, up_same, up_ne, Nat.reduceAdd, Int.reduceAdd, Int.reduceSub, Int.reduceMul, Int.reduceLT, Int.reduceLE, Int.reduceEq, Int.reduceNeg, Int.reduceToNat, Nat.reduceLT, Nat.reduceLeDiff, Nat.reduceEqDiff, ↓reduceIte, true_and, and_true, not_true_eq_false, not_false_eq_true, eq_self, or_true, true_or, or_false, false_or, if_true, if_false, Int.toNat_natCast, w_ite, Nat.add_zero, reduceCtorEq, ne_eq, hm1, hb1, hI1, e1, v1]
  refine sp_239 (two := true) h'.2.1 b1 (fun I2 L2 o hM hF hA => ?_)
  obtain ⟨h2, hL2⟩ := h'.mdl hM hF
  have hQ' := hQ S' I2 L2 R' G' _ o5 o6 o7 h2 (hL'.trans hL2) rStatus_g
  rw [hv] at hA
  obtain ⟨rfl, e0⟩ := hA
  simp (disch := omega) only [q_268_2263, q_268_2264, q_268_2265, q_268_2267, q_268_2268, q_268_2269, q_268_2270, q_268_2273, q_268_2274, q_268_2275, q_268_2277, q_268_2278, q_268_2279, q_268_2280, q_268_2283, q_268_2286, q_268_2287, va_rf_s, bz_0, bz_1, bz_ok, bb_ok, Nat.add_assoc, w_lt, w_add, w_sub, w_mul, w_div, em_def, w_eq, w_inT, ↓ilt_t, ↓ilt_f, ↓ieq_t, ↓ieq_f, ntT, w_b, w_ix, kx_v, kx_n, kl_n, kl_i, kl_r, kl_o, inA_i, inA_s, inA_b, inA_z, inA_l, inA_0, inA_4, inA_5, inA_6, inA_7, inA_8, inA_9, inA_10, al_0, al_1, al_2, al_4, al_5, al_98, bsP_2, bsP_3, wr_same, wr_wr, wr_ne, up_same, up_ne, Nat.reduceAdd, Int.reduceAdd, Int.reduceSub, Int.reduceMul, Int.reduceLT, Int.reduceLE, Int.reduceEq, Int.reduceNeg, Int.reduceToNat, Nat.reduceLT, Nat.reduceLeDiff, Nat.reduceEqDiff, ↓reduceIte, true_and, and_true, not_true_eq_false, not_false_eq_true, eq_self, or_true, true_or, or_false, false_or, if_true, if_false, Int.toNat_natCast, w_ite, Nat.add_zero, reduceCtorEq, ne_eq]
  exact hQ'
theorem kd_31 (h : LB S I L R G c s s) (hf : few s) (hbc : b < c) (hb : Scr S I b n x) (hi : i + 6 ≤ n) (hn : n ≤ 3072) (hQ : KN S I G d c b i Q s) : XX (d + 80) 268 2208 [some (.ref b), some (.ref c), some (.ref (c + 121)), some (.ref (c + 6799)), some (.int (w i)), o5, o6, o7] [] (mk S I L R G) Q := by
  have hc := h.1.1.1
  have hm := h.2.1.1.1
  have hb0 := hb.1
  have e1 : ((i : Int) + 1).toNat = i + 1 := by omega
  obtain ⟨v1, b1⟩ := hb.2 (i + 1) (by omega)
  simp (disch := omega) only [q_268_2208, q_268_2209, q_268_2210, q_268_2212, q_268_2213, q_268_2214, q_268_2215, q_268_2216, q_268_2219, q_268_2221, q_268_2222, q_268_2223, q_268_2225, q_268_2226, q_268_2227, q_268_2228, q_268_2231, q_268_2233, q_268_2234, q_268_2237, q_268_2239, q_268_2242, q_268_2243, q_268_2244, q_268_2246, q_268_2249, q_268_2250, q_268_2251, q_268_2252, q_268_2254, q_268_2255, q_268_2258, q_268_2259, q_268_2260, va_rf_s, bz_0, bz_1, bz_ok, bb_ok, Nat.add_assoc, w_lt, w_add, w_sub, w_mul, w_div, em_def, w_eq, w_inT, ↓ilt_t, ↓ilt_f, ↓ieq_t, ↓ieq_f, ntT, w_b, w_ix, kx_v, kx_n, kl_n, kl_i, kl_r, kl_o, inA_i, inA_s, inA_b, inA_z, inA_l, inA_0, inA_4, inA_5, inA_6, inA_7, inA_8, inA_9, inA_10, al_0, al_1, al_2, al_4, al_5, al_98, bsP_2, bsP_3, wr_same, wr_wr, wr_ne, up_same, up_ne, Nat.reduceAdd, Int.reduceAdd, Int.reduceSub, Int.reduceMul, Int.reduceLT, Int.reduceLE, Int.reduceEq, Int.reduceNeg, Int.reduceToNat, Nat.reduceLT, Nat.reduceLeDiff, Nat.reduceEqDiff, ↓reduceIte, true_and, and_true, not_true_eq_false, not_false_eq_true, eq_self, or_true, true_or, or_false, false_or, if_true, if_false, Int.toNat_natCast, w_ite, Nat.add_zero, reduceCtorEq, ne_eq, hc, hm, hb0, e1, v1]
  refine sp_267 h hf b1 (fun cl S' I' L' R' G' h' hL' ez => ?_) (fun cl S' I' L' R' G' h' hL' => ?_)
  · have hb1 : S' b = some (.inl (98, n)) := ((hL'.1 b hbc).1).trans hb.1
    have hI1 : I' b = I b := (hL'.1 b hbc).2
    have hm1 : S' (c + 121) = some (.inr 12) := h'.2.1.1.1
    have ho1 : S' (c + 6799) = some (.inl (1, 1)) := h'.2.2.1
    simp (disch := omega) only [q_268_2208, q_268_2209, q_268_2210, q_268_2212, q_268_2213, q_268_2214, q_268_2215, q_268_2216, q_268_2219, q_268_2221, q_268_2222, q_268_2223, q_268_2225, q_268_2226, q_268_2227, q_268_2228, q_268_2231, q_268_2233, q_268_2234, q_268_2237, q_268_2239, q_268_2242, q_268_2243, q_268_2244, q_268_2246, q_268_2249, q_268_2250, q_268_2251, q_268_2252, q_268_2254, q_268_2255, q_268_2258, q_268_2259, q_268_2260, va_rf_s, bz_0, bz_1, bz_ok, bb_ok, Nat.add_assoc, w_lt, w_add, w_sub, w_mul, w_div, em_def, w_eq, w_inT, ↓ilt_t, ↓ilt_f, ↓ieq_t, ↓ieq_f, ntT, w_b, w_ix, kx_v, kx_n, kl_n, kl_i, kl_r, kl_o, inA_i, inA_s, inA_b, inA_z, inA_l, inA_0, inA_4, inA_5, inA_6, inA_7, inA_8, inA_9, inA_10, al_0, al_1, al_2, al_4, al_5, al_98, bsP_2, bsP_3, wr_same, wr_wr, wr_ne, up_same, up_ne, Nat.reduceAdd, Int.reduceAdd, Int.reduceSub, Int.reduceMul, Int.reduceLT, Int.reduceLE, Int.reduceEq, Int.reduceNeg, Int.reduceToNat, Nat.reduceLT, Nat.reduceLeDiff, Nat.reduceEqDiff, ↓reduceIte, true_and, and_true, not_true_eq_false, not_false_eq_true, eq_self, or_true, true_or, or_false, false_or, if_true, if_false, Int.toNat_natCast, w_ite, Nat.add_zero, reduceCtorEq, ne_eq, hm1, hb1, hI1, e1, v1]
    refine sp_238 h'.2.1 hf b1 (fun cl2 I2 L2 hM hF e0 => ?_) (fun cl2 I2 L2 hM hF e0 => ?_)
    · obtain ⟨h2, hL2⟩ := h'.mdl hM hF
      have hout : L2 (c + 6799) = L' (c + 6799) := (hF _ (Or.inr (by omega))).2
      have s153 := fun {d : Nat} {Q : XO → Hp → Prop} => sp_153 (d := d) (Q := Q) (I := I2) (L := L2) (R := R') (G := G') hm1
      have hQ' := hQ S' I2 L2 R' G' _ (some (.int (w 0))) (some (.long (prF (fun n => T (rlz s (x (i + 1))) n) (s.2.1.1 + 1)))) none h2 (hL'.trans hL2) ⟨Nat.le_succ _, Nat.le_succ _⟩
      rw [← hout] at ez
      simp (disch := omega) only [q_268_2208, q_268_2209, q_268_2210, q_268_2212, q_268_2213, q_268_2214, q_268_2215, q_268_2216, q_268_2219, q_268_2221, q_268_2222, q_268_2223, q_268_2225, q_268_2226, q_268_2227, q_268_2228, q_268_2231, q_268_2233, q_268_2234, q_268_2237, q_268_2239, q_268_2242, q_268_2243, q_268_2244, q_268_2246, q_268_2249, q_268_2250, q_268_2251, q_268_2252, q_268_2254, q_268_2255, q_268_2258, q_268_2259, q_268_2260, va_rf_s, bz_0, bz_1, bz_ok, bb_ok, Nat.add_assoc, w_lt, w_add, w_sub, w_mul, w_div, em_def, w_eq, w_inT, ↓ilt_t, ↓ilt_f, ↓ieq_t, ↓ieq_f, ntT, w_b, w_ix, kx_v, kx_n, kl_n, kl_i, kl_r, kl_o, inA_i, inA_s, inA_b, inA_z, inA_l, inA_0, inA_4, inA_5, inA_6, inA_7, inA_8, inA_9, inA_10, al_0, al_1, al_2, al_4, al_5, al_98, bsP_2, bsP_3, wr_same, wr_wr, wr_ne, up_same, up_ne, Nat.reduceAdd, Int.reduceAdd, Int.reduceSub, Int.reduceMul, Int.reduceLT, Int.reduceLE, Int.reduceEq, Int.reduceNeg, Int.reduceToNat, Nat.reduceLT, Nat.reduceLeDiff, Nat.reduceEqDiff, ↓reduceIte, true_and, and_true, not_true_eq_false, not_false_eq_true, eq_self, or_true, true_or, or_false, false_or, if_true, if_false, Int.toNat_natCast, w_ite, Nat.add_zero, reduceCtorEq, ne_eq, hm1, ho1, s153, e0, ez, lg_self]
      exact hQ'
    · exact absurd cl cl2
  · have hb1 : S' b = some (.inl (98, n)) := ((hL'.1 b hbc).1).trans hb.1
    have hI1 : I' b = I b := (hL'.1 b hbc).2
    have hm1 : S' (c + 121) = some (.inr 12) := h'.2.1.1.1
    have ho1 : S' (c + 6799) = some (.inl (1, 1)) := h'.2.2.1
    simp (disch := omega) only [q_268_2208, q_268_2209, q_268_2210, q_268_2212, q_268_2213, q_268_2214, q_268_2215, q_268_2216, q_268_2219, q_268_2221, q_268_2222, q_268_2223, q_268_2225, q_268_2226, q_268_2227, q_268_2228, q_268_2231, q_268_2233, q_268_2234, q_268_2237, q_268_2239, q_268_2242, q_268_2243, q_268_2244, q_268_2246, q_268_2249, q_268_2250, q_268_2251, q_268_2252, q_268_2254, q_268_2255, q_268_2258, q_268_2259, q_268_2260, va_rf_s, bz_0, bz_1, bz_ok, bb_ok, Nat.add_assoc, w_lt, w_add, w_sub, w_mul, w_div, em_def, w_eq, w_inT, ↓ilt_t, ↓ilt_f, ↓ieq_t, ↓ieq_f, ntT, w_b, w_ix, kx_v, kx_n, kl_n, kl_i, kl_r, kl_o, inA_i, inA_s, inA_b, inA_z, inA_l, inA_0, inA_4, inA_5, inA_6, inA_7, inA_8, inA_9, inA_10, al_0, al_1, al_2, al_4, al_5, al_98, bsP_2, bsP_3, wr_same, wr_wr, wr_ne, up_same, up_ne, Nat.reduceAdd, Int.reduceAdd, Int.reduceSub, Int.reduceMul, Int.reduceLT, Int.reduceLE, Int.reduceEq, Int.reduceNeg, Int.reduceToNat, Nat.reduceLT, Nat.reduceLeDiff, Nat.reduceEqDiff, ↓reduceIte, true_and, and_true, not_true_eq_false, not_false_eq_true, eq_self, or_true, true_or, or_false, false_or, if_true, if_false, Int.toNat_natCast, w_ite, Nat.add_zero, reduceCtorEq, ne_eq, hm1, hb1, hI1, e1, v1]
    refine sp_238 h'.2.1 hf b1 (fun cl2 I2 L2 hM hF e0 => ?_) (fun cl2 I2 L2 hM hF e0 => ?_)
    · exact absurd cl2 cl
    · obtain ⟨h2, hL2⟩ := h'.mdl hM hF
      have hout : L2 (c + 6799) = L' (c + 6799) := (hF _ (Or.inr (by omega))).2
      have s153 := fun {d : Nat} {Q : XO → Hp → Prop} => sp_153 (d := d) (Q := Q) (I := I2) (L := L2) (R := R') (G := G') hm1
      have hQ' := hQ S' I2 L2 R' G' _ (some (.int (w 1))) (some (.long (wl 0))) none h2 (hL'.trans hL2) ⟨Nat.le_refl _, Nat.le_succ _⟩
      simp (disch := omega) only [q_268_2208, q_268_2209, q_268_2210, q_268_2212, q_268_2213, q_268_2214, q_268_2215, q_268_2216, q_268_2219, q_268_2221, q_268_2222, q_268_2223, q_268_2225, q_268_2226, q_268_2227, q_268_2228, q_268_2231, q_268_2233, q_268_2234, q_268_2237, q_268_2239, q_268_2242, q_268_2243, q_268_2244, q_268_2246, q_268_2249, q_268_2250, q_268_2251, q_268_2252, q_268_2254, q_268_2255, q_268_2258, q_268_2259, q_268_2260, va_rf_s, bz_0, bz_1, bz_ok, bb_ok, Nat.add_assoc, w_lt, w_add, w_sub, w_mul, w_div, em_def, w_eq, w_inT, ↓ilt_t, ↓ilt_f, ↓ieq_t, ↓ieq_f, ntT, w_b, w_ix, kx_v, kx_n, kl_n, kl_i, kl_r, kl_o, inA_i, inA_s, inA_b, inA_z, inA_l, inA_0, inA_4, inA_5, inA_6, inA_7, inA_8, inA_9, inA_10, al_0, al_1, al_2, al_4, al_5, al_98, bsP_2, bsP_3, wr_same, wr_wr, wr_ne, up_same, up_ne, Nat.reduceAdd, Int.reduceAdd, Int.reduceSub, Int.reduceMul, Int.reduceLT, Int.reduceLE, Int.reduceEq, Int.reduceNeg, Int.reduceToNat, Nat.reduceLT, Nat.reduceLeDiff, Nat.reduceEqDiff, ↓reduceIte, true_and, and_true, not_true_eq_false, not_false_eq_true, eq_self, or_true, true_or, or_false, false_or, if_true, if_false, Int.toNat_natCast, w_ite, Nat.add_zero, reduceCtorEq, ne_eq, hm1, s153, e0]
      exact hQ'
end

/-! the class's calls that hear a text: ways, way, stretches -/
def hrb (s : St) (n : Int) : Option (List Int × List Nat × List Nat) := if 1 ≤ n ∧ n ≤ s.1.length then spl (s.1.take n.toNat) false [] [] [] else none
def vWays (rs : List Rl) (h : Nat) (y : List Int × List Nat × List Nat) (x : Int) : Int := if x = 0 then (chA rs h y.1 y.2.1 y.2.2 0).1 else if x = 1 then (chA rs h y.1 y.2.1 y.2.2 0).2.1 else if (chA rs h y.1 y.2.1 y.2.2 0).2.1 = -1 then -1 else sumW (chA rs h y.1 y.2.1 y.2.2) (chA rs h y.1 y.2.1 y.2.2 0).2.1.toNat
def vWay (rs : List Rl) (h : Nat) (y : List Int × List Nat × List Nat) (k x : Int) : Int := if x = 0 then (chA rs h y.1 y.2.1 y.2.2 (pth (chA rs h y.1 y.2.1 y.2.2) k.toNat)).2.2.2 else (chA rs h y.1 y.2.1 y.2.2 (pth (chA rs h y.1 y.2.1 y.2.2) k.toNat)).2.2.1 - pth (chA rs h y.1 y.2.1 y.2.2) k.toNat
def rWays (s : St) (l n x : Int) : Res := if inL l then (match hrb s n with
  | none => rWron s
  | some y => if 0 ≤ x ∧ x ≤ 2 then (.inl (vWays (rlz s l) s.2.1.1 y x), s) else rWron s) else rMiss s
def rWay (s : St) (l n k x : Int) : Res := if inL l then (match hrb s n with
  | none => rWron s
  | some y => if 0 ≤ k ∧ k < (chA (rlz s l) s.2.1.1 y.1 y.2.1 y.2.2 0).2.1 then (if 0 ≤ x ∧ x ≤ 1 then (.inl (vWay (rlz s l) s.2.1.1 y k x), s) else rWron s) else rMiss s) else rMiss s
def rStr (s : St) (l n : Int) : Res := if inL l then (match hrb s n with
  | none => rWron s
  | some y => (.inl ((hcn (chC (rlz s l) s.2.1.1 y.1 y.2.1 y.2.2) y.2.1.length y.2.1.length : Nat) : Int), s)) else rMiss s
section
variable {d : Nat} {Q : XO → Hp → Prop} {S : SH} {I : MI} {L : ML} {R : MR} {G : MG} {A : Hp}
variable {c lo : Nat} {s : St}
theorem sp_147 {n : Int} (h : CR S I L R G c lo s) (hn : B32 n)
    (hQ0 : hrb s n = none → ∀ I' : MI, Rem S I L R c s I' L → Q (.inr 1) (mk S (wr I' c (up (I' c) 12 (w (s.2.2.2.2.2 + 1 : Nat)))) L R (G.1 + 1, G.2.1 + 6, G.2.2)))
    (hQ1 : ∀ y, hrb s n = some y → ∀ I' : MI, Rem S I L R c s I' L → ChAt I' (c + 112) y.1 y.2.1 y.2.2 → Q (.inl none) (mk S I' L R G)) :
    XC (d + 3) 147 [.ref c, .int (w n)] (mk S I L R G) Q := by
  have hc := h.1.1
  have hk : t_han 147 = [] := rfl
  have hTp := h.1.2.1
  have hT0 := hTp.1
  have hwg := h.2.2.2.2.2.2.2.2.2.2.2.2.1
  have hCh := h.1.2.2.2.2.2.2.2.2.2.1
  obtain ⟨⟨ht1, ht2⟩, ht3, ht4⟩ := h.2.2.2.1
  unfold hrb at hQ0 hQ1
  by_cases cn : 1 ≤ n ∧ n ≤ s.1.length
  · have s146 := fun {d : Nat} {Q : XO → Hp → Prop} => h.in (d := d) (Q := Q) hn (y := 1) (z := s.1.length) (by decide) (by constructor <;> omega) cn
    rw [if_pos cn] at hQ0 hQ1
    simp (disch := omega) only [q_147_0, q_147_1, q_147_2, q_147_3, q_147_4, q_147_7, q_147_10, q_147_13, q_147_14, q_147_17, q_147_18, q_147_21, q_147_24, q_147_25, q_147_28, q_147_31, q_147_32, q_147_33, q_147_36, q_147_37, q_147_38, q_147_41, q_147_52, q_147_e, va_rf_s, bz_0, bz_1, bz_ok, bb_ok, Nat.add_assoc, w_lt, w_add, w_sub, w_mul, w_div, em_def, w_eq, w_inT, ↓ilt_t, ↓ilt_f, ↓ieq_t, ↓ieq_f, ntT, w_b, w_ix, kx_v, kx_n, kl_n, kl_i, kl_r, kl_o, inA_i, inA_s, inA_b, inA_z, inA_l, inA_0, inA_4, inA_5, inA_6, inA_7, inA_8, inA_9, inA_10, al_0, al_1, al_2, al_4, al_5, al_98, bsP_2, bsP_3, wr_same, wr_wr, wr_ne, up_same, up_ne, Nat.reduceAdd, Int.reduceAdd, Int.reduceSub, Int.reduceMul, Int.reduceLT, Int.reduceLE, Int.reduceEq, Int.reduceNeg, Int.reduceToNat, Nat.reduceLT, Nat.reduceLeDiff, Nat.reduceEqDiff, ↓reduceIte, true_and, and_true, not_true_eq_false, not_false_eq_true, eq_self, or_true, true_or, or_false, false_or, if_true, if_false, Int.toNat_natCast, w_ite, Nat.add_zero, reduceCtorEq, ne_eq, hc, hT0, ht1, s146, hCh.1]
    have hlen : (s.1.take n.toNat).length = n.toNat := by rw [List.length_take]; omega
    have htx : Txt (I (c + 2)) 0 ((s.1.take n.toNat).map sb) := by
      intro i hi
      rw [ht2 i (by rw [List.length_map] at hi ⊢; omega)]
      rw [List.length_map, hlen] at hi
      simp only [List.getD_eq_getElem?_getD, List.getElem?_map, List.getElem?_take]
      rw [if_pos hi]
    have en : n = ((s.1.take n.toNat).length : Int) := by rw [hlen]; omega
    have s12 := fun {d : Nat} {Q : XO → Hp → Prop} => sp_12 (d := d) (Q := Q) (L := L) (R := R) (G := G) hCh hTp.2 (by decide) (by omega) htx (fun b hb => ht4 b (List.mem_of_mem_take hb)) (by omega)
    rw [← en] at s12
    have rm : ∀ I' : MI, (∀ a, (a < c + 112 ∨ c + 112 + 7 < a) → I' a = I a) → Rem S I L R c s I' L := fun I' hf => h.rk (fun a ha => ⟨hf a (by omega), rfl⟩) (fun l hl a h1 h2 => hf a (by omega)) (fun l hl j hj => by rw [hf _ (by omega)])
    refine s12 (fun e I' hf => ?_) (fun l st en e I' hf hC => ?_)
    · have hwg' : I' c 12 = w s.2.2.2.2.2 := by rw [hf c (by omega)]; exact hwg
      have := hQ0 e I' (rm I' hf)
      simp only [Int.natCast_add, Int.natCast_one] at this
      simp (disch := omega) only [q_147_0, q_147_1, q_147_2, q_147_3, q_147_4, q_147_7, q_147_10, q_147_13, q_147_14, q_147_17, q_147_18, q_147_21, q_147_24, q_147_25, q_147_28, q_147_31, q_147_32, q_147_33, q_147_36, q_147_37, q_147_38, q_147_41, q_147_52, q_147_e, va_rf_s, bz_0, bz_1, bz_ok, bb_ok, Nat.add_assoc, w_lt, w_add, w_sub, w_mul, w_div, em_def, w_eq, w_inT, ↓ilt_t, ↓ilt_f, ↓ieq_t, ↓ieq_f, ntT, w_b, w_ix, kx_v, kx_n, kl_n, kl_i, kl_r, kl_o, inA_i, inA_s, inA_b, inA_z, inA_l, inA_0, inA_4, inA_5, inA_6, inA_7, inA_8, inA_9, inA_10, al_0, al_1, al_2, al_4, al_5, al_98, bsP_2, bsP_3, wr_same, wr_wr, wr_ne, up_same, up_ne, Nat.reduceAdd, Int.reduceAdd, Int.reduceSub, Int.reduceMul, Int.reduceLT, Int.reduceLE, Int.reduceEq, Int.reduceNeg, Int.reduceToNat, Nat.reduceLT, Nat.reduceLeDiff, Nat.reduceEqDiff, ↓reduceIte, true_and, and_true, not_true_eq_false, not_false_eq_true, eq_self, or_true, true_or, or_false, false_or, if_true, if_false, Int.toNat_natCast, w_ite, Nat.add_zero, reduceCtorEq, ne_eq, hc, hwg', kx_t hk]
      exact this
    · simp (disch := omega) only [q_147_0, q_147_1, q_147_2, q_147_3, q_147_4, q_147_7, q_147_10, q_147_13, q_147_14, q_147_17, q_147_18, q_147_21, q_147_24, q_147_25, q_147_28, q_147_31, q_147_32, q_147_33, q_147_36, q_147_37, q_147_38, q_147_41, q_147_52, q_147_e, va_rf_s, bz_0, bz_1, bz_ok, bb_ok, Nat.add_assoc, w_lt, w_add, w_sub, w_mul, w_div, em_def, w_eq, w_inT, ↓ilt_t, ↓ilt_f, ↓ieq_t, ↓ieq_f, ntT, w_b, w_ix, kx_v, kx_n, kl_n, kl_i, kl_r, kl_o, inA_i, inA_s, inA_b, inA_z, inA_l, inA_0, inA_4, inA_5, inA_6, inA_7, inA_8, inA_9, inA_10, al_0, al_1, al_2, al_4, al_5, al_98, bsP_2, bsP_3, wr_same, wr_wr, wr_ne, up_same, up_ne, Nat.reduceAdd, Int.reduceAdd, Int.reduceSub, Int.reduceMul, Int.reduceLT, Int.reduceLE, Int.reduceEq, Int.reduceNeg, Int.reduceToNat, Nat.reduceLT, Nat.reduceLeDiff, Nat.reduceEqDiff, ↓reduceIte, true_and, and_true, not_true_eq_false, not_false_eq_true, eq_self, or_true, true_or, or_false, false_or, if_true, if_false, Int.toNat_natCast, w_ite, Nat.add_zero, reduceCtorEq, ne_eq, hc]
      exact hQ1 (l, st, en) e I' (rm I' hf) hC
  · have s146 := fun {d : Nat} {Q : XO → Hp → Prop} => h.noI (d := d) (Q := Q) hn (y := 1) (z := s.1.length) (by decide) (by constructor <;> omega) cn
    rw [if_neg cn] at hQ0
    simp (disch := omega) only [q_147_0, q_147_1, q_147_2, q_147_3, q_147_4, q_147_7, q_147_10, q_147_13, q_147_14, q_147_17, q_147_18, q_147_21, q_147_24, q_147_25, q_147_28, q_147_31, q_147_32, q_147_33, q_147_36, q_147_37, q_147_38, q_147_41, q_147_52, q_147_e, va_rf_s, bz_0, bz_1, bz_ok, bb_ok, Nat.add_assoc, w_lt, w_add, w_sub, w_mul, w_div, em_def, w_eq, w_inT, ↓ilt_t, ↓ilt_f, ↓ieq_t, ↓ieq_f, ntT, w_b, w_ix, kx_v, kx_n, kl_n, kl_i, kl_r, kl_o, inA_i, inA_s, inA_b, inA_z, inA_l, inA_0, inA_4, inA_5, inA_6, inA_7, inA_8, inA_9, inA_10, al_0, al_1, al_2, al_4, al_5, al_98, bsP_2, bsP_3, wr_same, wr_wr, wr_ne, up_same, up_ne, Nat.reduceAdd, Int.reduceAdd, Int.reduceSub, Int.reduceMul, Int.reduceLT, Int.reduceLE, Int.reduceEq, Int.reduceNeg, Int.reduceToNat, Nat.reduceLT, Nat.reduceLeDiff, Nat.reduceEqDiff, ↓reduceIte, true_and, and_true, not_true_eq_false, not_false_eq_true, eq_self, or_true, true_or, or_false, false_or, if_true, if_false, Int.toNat_natCast, w_ite, Nat.add_zero, reduceCtorEq, ne_eq, hc, hT0, ht1, s146, kx_t hk]
    exact hQ0 rfl I (Rem.refl h)
theorem hrb_ok {n : Int} {y : List Int × List Nat × List Nat} (h : CR S I L R G c lo s) (e : hrb s n = some y) : WOk y.1 y.2.1 y.2.2 ∧ y.2.1.length ≤ 40 ∧ y.1.length ≤ 400 := by
  unfold hrb at e
  split at e
  · have := spl_ok0 (l := y.1) (st := y.2.1) (en := y.2.2) e
    have h4 := h.2.2.2.1.2.1
    have hl := this.2.2
    rw [List.length_take] at hl
    exact ⟨this.1, this.2.1, by omega⟩
  · cases e
/-- the chart weighed -/
theorem CR.weigh {l : Int} {k : Nat} {y : List Int × List Nat × List Nat} (h : CR S I L R G c lo s) (cl : inL l) (g : Lg S I L R G c lo s l k) (hy : WOk y.1 y.2.1 y.2.2 ∧ y.2.1.length ≤ 40 ∧ y.1.length ≤ 400) (hC : ChAt I (c + 112) y.1 y.2.1 y.2.2) (hM : MInv (rlz s l) I (k + 1)) (hO : Ready (rlz s l) I k s.2.1.1)
    (hQ : ∀ (I' : MI) (L' : ML), Rem S I L R c s I' L' → ChD I' L' (c + 112) (rlz s l) s.2.1.1 y.1 y.2.1 y.2.2 → Q (.inl none) (mk S I' L' R G)) : XC (d + 6) 16 [.ref (c + 112), .ref k] (mk S I L R G) Q := by
  obtain ⟨b1, b2, b3, b4⟩ := h.bk
  have gb := g.b1
  have gb2 := g.b2
  have ek := g.hk
  have hCh := h.1.2.2.2.2.2.2.2.2.2.1
  refine sp_16 hCh g.hK (by omega) b3 hM g.ok hO hC hy.1 hy.2.2 (fun I' L' f1 f2 f3 hD => ?_)
  refine hQ I' L' (h.rk (fun a ha => ⟨f1 a (by omega) (by omega), f3 a (by omega)⟩) (fun l' hl' a h1 h2 => f1 a (by omega) (by omega)) (fun l' hl' j hj => ?_)) hD
  by_cases e : c + 51 + 20 * l' = k
  · rw [e]; exact f2 j hj
  · rw [f1 _ (by omega) e]
theorem sp_127 {l n x : Int} (h : CR S I L R G c lo s) (hf : few s) (hl : B32 l) (hn : B32 n) (hx : B32 x) (hQ : CK S I L R G c lo Q (outX (rWays s l n x).1) (rWays s l n x).2) : XC (d + 70) 127 [.ref c, .int (w l), .int (w n), .int (w x)] (mk S I L R G) Q := by
  have hc := h.1.1
  have hk : t_han 127 = [] := rfl
  unfold rWays at hQ
  by_cases cl : inL l
  · rw [if_pos cl] at hQ
    obtain ⟨k, g⟩ := h.lg cl
    have p141 := @g.p141
    have hk5 := g.hK.1
    have p143 := @g.p143
    simp (disch := omega) only [q_127_0, q_127_1, q_127_2, q_127_5, q_127_6, q_127_7, q_127_10, q_127_11, q_127_12, q_127_13, q_127_14, q_127_17, q_127_18, q_127_21, q_127_22, q_127_23, q_127_26, q_127_27, q_127_30, q_127_33, q_127_36, q_127_39, q_127_40, q_127_68, q_127_69, q_127_72, q_127_75, q_127_76, q_127_77, q_127_80, q_127_83, q_127_84, q_127_85, q_127_88, q_127_91, q_127_e, va_rf_s, bz_0, bz_1, bz_ok, bb_ok, Nat.add_assoc, w_lt, w_add, w_sub, w_mul, w_div, em_def, w_eq, w_inT, ↓ilt_t, ↓ilt_f, ↓ieq_t, ↓ieq_f, ntT, w_b, w_ix, kx_v, kx_n, kl_n, kl_i, kl_r, kl_o, inA_i, inA_s, inA_b, inA_z, inA_l, inA_0, inA_4, inA_5, inA_6, inA_7, inA_8, inA_9, inA_10, al_0, al_1, al_2, al_4, al_5, al_98, bsP_2, bsP_3, wr_same, wr_wr, wr_ne, up_same, up_ne, Nat.reduceAdd, Int.reduceAdd, Int.reduceSub, Int.reduceMul, Int.reduceLT, Int.reduceLE, Int.reduceEq, Int.reduceNeg, Int.reduceToNat, Nat.reduceLT, Nat.reduceLeDiff, Nat.reduceEqDiff, ↓reduceIte, true_and, and_true, not_true_eq_false, not_false_eq_true, eq_self, or_true, true_or, or_false, false_or, if_true, if_false, Int.toNat_natCast, w_ite, Nat.add_zero, reduceCtorEq, ne_eq, hc, p143]
    refine sp_147 h hn (fun e I1 hr1 => ?_) (fun y e I1 hr1 hC => ?_)
    · rw [e] at hQ
      simp (disch := omega) only [q_127_0, q_127_1, q_127_2, q_127_5, q_127_6, q_127_7, q_127_10, q_127_11, q_127_12, q_127_13, q_127_14, q_127_17, q_127_18, q_127_21, q_127_22, q_127_23, q_127_26, q_127_27, q_127_30, q_127_33, q_127_36, q_127_39, q_127_40, q_127_68, q_127_69, q_127_72, q_127_75, q_127_76, q_127_77, q_127_80, q_127_83, q_127_84, q_127_85, q_127_88, q_127_91, q_127_e, va_rf_s, bz_0, bz_1, bz_ok, bb_ok, Nat.add_assoc, w_lt, w_add, w_sub, w_mul, w_div, em_def, w_eq, w_inT, ↓ilt_t, ↓ilt_f, ↓ieq_t, ↓ieq_f, ntT, w_b, w_ix, kx_v, kx_n, kl_n, kl_i, kl_r, kl_o, inA_i, inA_s, inA_b, inA_z, inA_l, inA_0, inA_4, inA_5, inA_6, inA_7, inA_8, inA_9, inA_10, al_0, al_1, al_2, al_4, al_5, al_98, bsP_2, bsP_3, wr_same, wr_wr, wr_ne, up_same, up_ne, Nat.reduceAdd, Int.reduceAdd, Int.reduceSub, Int.reduceMul, Int.reduceLT, Int.reduceLE, Int.reduceEq, Int.reduceNeg, Int.reduceToNat, Nat.reduceLT, Nat.reduceLeDiff, Nat.reduceEqDiff, ↓reduceIte, true_and, and_true, not_true_eq_false, not_false_eq_true, eq_self, or_true, true_or, or_false, false_or, if_true, if_false, Int.toNat_natCast, w_ite, Nat.add_zero, reduceCtorEq, ne_eq, kx_t hk]
      exact CK.wro h hr1 hf.2 hQ
    · rw [e] at hQ
      dsimp only at hQ
      have h1 := hr1.cr h
      by_cases cx : 0 ≤ x ∧ x ≤ 2
      · rw [if_pos cx] at hQ
        have s146 := fun {d : Nat} {Q : XO → Hp → Prop} => h1.in (d := d) (Q := Q) hx (y := 0) (z := 2) (by decide) (by decide) cx
        have hB := h.1.2.2.1.1
        obtain ⟨b1, b2, b3, b4⟩ := h1.bk
        have g1 := h1.lgk cl g
        simp (disch := omega) only [q_127_0, q_127_1, q_127_2, q_127_5, q_127_6, q_127_7, q_127_10, q_127_11, q_127_12, q_127_13, q_127_14, q_127_17, q_127_18, q_127_21, q_127_22, q_127_23, q_127_26, q_127_27, q_127_30, q_127_33, q_127_36, q_127_39, q_127_40, q_127_68, q_127_69, q_127_72, q_127_75, q_127_76, q_127_77, q_127_80, q_127_83, q_127_84, q_127_85, q_127_88, q_127_91, q_127_e, va_rf_s, bz_0, bz_1, bz_ok, bb_ok, Nat.add_assoc, w_lt, w_add, w_sub, w_mul, w_div, em_def, w_eq, w_inT, ↓ilt_t, ↓ilt_f, ↓ieq_t, ↓ieq_f, ntT, w_b, w_ix, kx_v, kx_n, kl_n, kl_i, kl_r, kl_o, inA_i, inA_s, inA_b, inA_z, inA_l, inA_0, inA_4, inA_5, inA_6, inA_7, inA_8, inA_9, inA_10, al_0, al_1, al_2, al_4, al_5, al_98, bsP_2, bsP_3, wr_same, wr_wr, wr_ne, up_same, up_ne, Nat.reduceAdd, Int.reduceAdd, Int.reduceSub, Int.reduceMul, Int.reduceLT, Int.reduceLE, Int.reduceEq, Int.reduceNeg, Int.reduceToNat, Nat.reduceLT, Nat.reduceLeDiff, Nat.reduceEqDiff, ↓reduceIte, true_and, and_true, not_true_eq_false, not_false_eq_true, eq_self, or_true, true_or, or_false, false_or, if_true, if_false, Int.toNat_natCast, w_ite, Nat.add_zero, reduceCtorEq, ne_eq, hc, s146, p141, hk5, hB, b1]
        refine h1.prep cl g1 (fun I2 hr2 hf2 hM2 hO2 => ?_)
        have h2 := hr2.cr h1
        have g2 := h2.lgk cl g
        have gb := g.b1
        have gb2 := g.b2
        have hC2 : ChAt I2 (c + 112) y.1 y.2.1 y.2.2 := by
          unfold ChAt at hC ⊢
          rw [hf2 _ (by omega), hf2 _ (by omega), hf2 _ (by omega), hf2 _ (by omega)]
          exact hC
        have hch0 := h.1.2.2.2.2.2.2.2.2.2.1.1
        simp (disch := omega) only [q_127_0, q_127_1, q_127_2, q_127_5, q_127_6, q_127_7, q_127_10, q_127_11, q_127_12, q_127_13, q_127_14, q_127_17, q_127_18, q_127_21, q_127_22, q_127_23, q_127_26, q_127_27, q_127_30, q_127_33, q_127_36, q_127_39, q_127_40, q_127_68, q_127_69, q_127_72, q_127_75, q_127_76, q_127_77, q_127_80, q_127_83, q_127_84, q_127_85, q_127_88, q_127_91, q_127_e, va_rf_s, bz_0, bz_1, bz_ok, bb_ok, Nat.add_assoc, w_lt, w_add, w_sub, w_mul, w_div, em_def, w_eq, w_inT, ↓ilt_t, ↓ilt_f, ↓ieq_t, ↓ieq_f, ntT, w_b, w_ix, kx_v, kx_n, kl_n, kl_i, kl_r, kl_o, inA_i, inA_s, inA_b, inA_z, inA_l, inA_0, inA_4, inA_5, inA_6, inA_7, inA_8, inA_9, inA_10, al_0, al_1, al_2, al_4, al_5, al_98, bsP_2, bsP_3, wr_same, wr_wr, wr_ne, up_same, up_ne, Nat.reduceAdd, Int.reduceAdd, Int.reduceSub, Int.reduceMul, Int.reduceLT, Int.reduceLE, Int.reduceEq, Int.reduceNeg, Int.reduceToNat, Nat.reduceLT, Nat.reduceLeDiff, Nat.reduceEqDiff, ↓reduceIte, true_and, and_true, not_true_eq_false, not_false_eq_true, eq_self, or_true, true_or, or_false, false_or, if_true, if_false, Int.toNat_natCast, w_ite, Nat.add_zero, reduceCtorEq, ne_eq, hch0]
        refine h2.weigh (y := y) cl g2 (hrb_ok h e) hC2 hM2 hO2 (fun I3 L3 hr3 hD => ?_)
        have hQ' := CK.ask h ((hr1.trans hr2).trans hr3) hQ
        dsimp only at hQ'
        unfold vWays at hQ'
        have hCh := h.1.2.2.2.2.2.2.2.2.2.1
        have s18 := fun {d : Nat} {Q : XO → Hp → Prop} => sp_18 (d := d) (Q := Q) (R := R) (G := G) hCh hD
        have s19 := fun {d : Nat} {Q : XO → Hp → Prop} => sp_19 (d := d) (Q := Q) (R := R) (G := G) hCh hD
        have s20 := fun {d : Nat} {Q : XO → Hp → Prop} => sp_20 (d := d) (Q := Q) (R := R) (G := G) hCh b3 hD
        simp (disch := omega) only [q_127_0, q_127_1, q_127_2, q_127_5, q_127_6, q_127_7, q_127_10, q_127_11, q_127_12, q_127_13, q_127_14, q_127_17, q_127_18, q_127_21, q_127_22, q_127_23, q_127_26, q_127_27, q_127_30, q_127_33, q_127_36, q_127_39, q_127_40, q_127_68, q_127_69, q_127_72, q_127_75, q_127_76, q_127_77, q_127_80, q_127_83, q_127_84, q_127_85, q_127_88, q_127_91, q_127_e, va_rf_s, bz_0, bz_1, bz_ok, bb_ok, Nat.add_assoc, w_lt, w_add, w_sub, w_mul, w_div, em_def, w_eq, w_inT, ↓ilt_t, ↓ilt_f, ↓ieq_t, ↓ieq_f, ntT, w_b, w_ix, kx_v, kx_n, kl_n, kl_i, kl_r, kl_o, inA_i, inA_s, inA_b, inA_z, inA_l, inA_0, inA_4, inA_5, inA_6, inA_7, inA_8, inA_9, inA_10, al_0, al_1, al_2, al_4, al_5, al_98, bsP_2, bsP_3, wr_same, wr_wr, wr_ne, up_same, up_ne, Nat.reduceAdd, Int.reduceAdd, Int.reduceSub, Int.reduceMul, Int.reduceLT, Int.reduceLE, Int.reduceEq, Int.reduceNeg, Int.reduceToNat, Nat.reduceLT, Nat.reduceLeDiff, Nat.reduceEqDiff, ↓reduceIte, true_and, and_true, not_true_eq_false, not_false_eq_true, eq_self, or_true, true_or, or_false, false_or, if_true, if_false, Int.toNat_natCast, w_ite, Nat.add_zero, reduceCtorEq, ne_eq, w_toInt]
        have hcs : x = 0 ∨ x = 1 ∨ x = 2 := by omega
        rcases hcs with e | e | e
        · subst e
          rw [show swL [(0, 68), (1, 76)] 84 0 = 68 from rfl]
          simp (disch := omega) only [q_127_0, q_127_1, q_127_2, q_127_5, q_127_6, q_127_7, q_127_10, q_127_11, q_127_12, q_127_13, q_127_14, q_127_17, q_127_18, q_127_21, q_127_22, q_127_23, q_127_26, q_127_27, q_127_30, q_127_33, q_127_36, q_127_39, q_127_40, q_127_68, q_127_69, q_127_72, q_127_75, q_127_76, q_127_77, q_127_80, q_127_83, q_127_84, q_127_85, q_127_88, q_127_91, q_127_e, va_rf_s, bz_0, bz_1, bz_ok, bb_ok, Nat.add_assoc, w_lt, w_add, w_sub, w_mul, w_div, em_def, w_eq, w_inT, ↓ilt_t, ↓ilt_f, ↓ieq_t, ↓ieq_f, ntT, w_b, w_ix, kx_v, kx_n, kl_n, kl_i, kl_r, kl_o, inA_i, inA_s, inA_b, inA_z, inA_l, inA_0, inA_4, inA_5, inA_6, inA_7, inA_8, inA_9, inA_10, al_0, al_1, al_2, al_4, al_5, al_98, bsP_2, bsP_3, wr_same, wr_wr, wr_ne, up_same, up_ne, Nat.reduceAdd, Int.reduceAdd, Int.reduceSub, Int.reduceMul, Int.reduceLT, Int.reduceLE, Int.reduceEq, Int.reduceNeg, Int.reduceToNat, Nat.reduceLT, Nat.reduceLeDiff, Nat.reduceEqDiff, ↓reduceIte, true_and, and_true, not_true_eq_false, not_false_eq_true, eq_self, or_true, true_or, or_false, false_or, if_true, if_false, Int.toNat_natCast, w_ite, Nat.add_zero, reduceCtorEq, ne_eq, hc, hch0, s18]
          exact hQ'
        · subst e
          rw [show swL [(0, 68), (1, 76)] 84 1 = 76 from rfl]
          simp (disch := omega) only [q_127_0, q_127_1, q_127_2, q_127_5, q_127_6, q_127_7, q_127_10, q_127_11, q_127_12, q_127_13, q_127_14, q_127_17, q_127_18, q_127_21, q_127_22, q_127_23, q_127_26, q_127_27, q_127_30, q_127_33, q_127_36, q_127_39, q_127_40, q_127_68, q_127_69, q_127_72, q_127_75, q_127_76, q_127_77, q_127_80, q_127_83, q_127_84, q_127_85, q_127_88, q_127_91, q_127_e, va_rf_s, bz_0, bz_1, bz_ok, bb_ok, Nat.add_assoc, w_lt, w_add, w_sub, w_mul, w_div, em_def, w_eq, w_inT, ↓ilt_t, ↓ilt_f, ↓ieq_t, ↓ieq_f, ntT, w_b, w_ix, kx_v, kx_n, kl_n, kl_i, kl_r, kl_o, inA_i, inA_s, inA_b, inA_z, inA_l, inA_0, inA_4, inA_5, inA_6, inA_7, inA_8, inA_9, inA_10, al_0, al_1, al_2, al_4, al_5, al_98, bsP_2, bsP_3, wr_same, wr_wr, wr_ne, up_same, up_ne, Nat.reduceAdd, Int.reduceAdd, Int.reduceSub, Int.reduceMul, Int.reduceLT, Int.reduceLE, Int.reduceEq, Int.reduceNeg, Int.reduceToNat, Nat.reduceLT, Nat.reduceLeDiff, Nat.reduceEqDiff, ↓reduceIte, true_and, and_true, not_true_eq_false, not_false_eq_true, eq_self, or_true, true_or, or_false, false_or, if_true, if_false, Int.toNat_natCast, w_ite, Nat.add_zero, reduceCtorEq, ne_eq, hc, hch0, s19]
          exact hQ'
        · subst e
          rw [show swL [(0, 68), (1, 76)] 84 2 = 84 from rfl]
          simp (disch := omega) only [q_127_0, q_127_1, q_127_2, q_127_5, q_127_6, q_127_7, q_127_10, q_127_11, q_127_12, q_127_13, q_127_14, q_127_17, q_127_18, q_127_21, q_127_22, q_127_23, q_127_26, q_127_27, q_127_30, q_127_33, q_127_36, q_127_39, q_127_40, q_127_68, q_127_69, q_127_72, q_127_75, q_127_76, q_127_77, q_127_80, q_127_83, q_127_84, q_127_85, q_127_88, q_127_91, q_127_e, va_rf_s, bz_0, bz_1, bz_ok, bb_ok, Nat.add_assoc, w_lt, w_add, w_sub, w_mul, w_div, em_def, w_eq, w_inT, ↓ilt_t, ↓ilt_f, ↓ieq_t, ↓ieq_f, ntT, w_b, w_ix, kx_v, kx_n, kl_n, kl_i, kl_r, kl_o, inA_i, inA_s, inA_b, inA_z, inA_l, inA_0, inA_4, inA_5, inA_6, inA_7, inA_8, inA_9, inA_10, al_0, al_1, al_2, al_4, al_5, al_98, bsP_2, bsP_3, wr_same, wr_wr, wr_ne, up_same, up_ne, Nat.reduceAdd, Int.reduceAdd, Int.reduceSub, Int.reduceMul, Int.reduceLT, Int.reduceLE, Int.reduceEq, Int.reduceNeg, Int.reduceToNat, Nat.reduceLT, Nat.reduceLeDiff, Nat.reduceEqDiff, ↓reduceIte, true_and, and_true, not_true_eq_false, not_false_eq_true, eq_self, or_true, true_or, or_false, false_or, if_true, if_false, Int.toNat_natCast, w_ite, Nat.add_zero, reduceCtorEq, ne_eq, hc, hch0]
          exact s20.mpr (by simp (disch := omega) only [q_127_0, q_127_1, q_127_2, q_127_5, q_127_6, q_127_7, q_127_10, q_127_11, q_127_12, q_127_13, q_127_14, q_127_17, q_127_18, q_127_21, q_127_22, q_127_23, q_127_26, q_127_27, q_127_30, q_127_33, q_127_36, q_127_39, q_127_40, q_127_68, q_127_69, q_127_72, q_127_75, q_127_76, q_127_77, q_127_80, q_127_83, q_127_84, q_127_85, q_127_88, q_127_91, q_127_e, va_rf_s, bz_0, bz_1, bz_ok, bb_ok, Nat.add_assoc, w_lt, w_add, w_sub, w_mul, w_div, em_def, w_eq, w_inT, ↓ilt_t, ↓ilt_f, ↓ieq_t, ↓ieq_f, ntT, w_b, w_ix, kx_v, kx_n, kl_n, kl_i, kl_r, kl_o, inA_i, inA_s, inA_b, inA_z, inA_l, inA_0, inA_4, inA_5, inA_6, inA_7, inA_8, inA_9, inA_10, al_0, al_1, al_2, al_4, al_5, al_98, bsP_2, bsP_3, wr_same, wr_wr, wr_ne, up_same, up_ne, Nat.reduceAdd, Int.reduceAdd, Int.reduceSub, Int.reduceMul, Int.reduceLT, Int.reduceLE, Int.reduceEq, Int.reduceNeg, Int.reduceToNat, Nat.reduceLT, Nat.reduceLeDiff, Nat.reduceEqDiff, ↓reduceIte, true_and, and_true, not_true_eq_false, not_false_eq_true, eq_self, or_true, true_or, or_false, false_or, if_true, if_false, Int.toNat_natCast, w_ite, Nat.add_zero, reduceCtorEq, ne_eq]; exact hQ')
      · rw [if_neg cx] at hQ
        have s146 := fun {d : Nat} {Q : XO → Hp → Prop} => h1.noI (d := d) (Q := Q) hx (y := 0) (z := 2) (by decide) (by decide) cx
        simp (disch := omega) only [q_127_0, q_127_1, q_127_2, q_127_5, q_127_6, q_127_7, q_127_10, q_127_11, q_127_12, q_127_13, q_127_14, q_127_17, q_127_18, q_127_21, q_127_22, q_127_23, q_127_26, q_127_27, q_127_30, q_127_33, q_127_36, q_127_39, q_127_40, q_127_68, q_127_69, q_127_72, q_127_75, q_127_76, q_127_77, q_127_80, q_127_83, q_127_84, q_127_85, q_127_88, q_127_91, q_127_e, va_rf_s, bz_0, bz_1, bz_ok, bb_ok, Nat.add_assoc, w_lt, w_add, w_sub, w_mul, w_div, em_def, w_eq, w_inT, ↓ilt_t, ↓ilt_f, ↓ieq_t, ↓ieq_f, ntT, w_b, w_ix, kx_v, kx_n, kl_n, kl_i, kl_r, kl_o, inA_i, inA_s, inA_b, inA_z, inA_l, inA_0, inA_4, inA_5, inA_6, inA_7, inA_8, inA_9, inA_10, al_0, al_1, al_2, al_4, al_5, al_98, bsP_2, bsP_3, wr_same, wr_wr, wr_ne, up_same, up_ne, Nat.reduceAdd, Int.reduceAdd, Int.reduceSub, Int.reduceMul, Int.reduceLT, Int.reduceLE, Int.reduceEq, Int.reduceNeg, Int.reduceToNat, Nat.reduceLT, Nat.reduceLeDiff, Nat.reduceEqDiff, ↓reduceIte, true_and, and_true, not_true_eq_false, not_false_eq_true, eq_self, or_true, true_or, or_false, false_or, if_true, if_false, Int.toNat_natCast, w_ite, Nat.add_zero, reduceCtorEq, ne_eq, hc, s146, kx_t hk]
        exact CK.wro h hr1 hf.2 hQ
  · rw [if_neg cl] at hQ
    have s143 := fun {d : Nat} {Q : XO → Hp → Prop} => h.noL (d := d) (Q := Q) hl cl
    simp (disch := omega) only [q_127_0, q_127_1, q_127_2, q_127_5, q_127_6, q_127_7, q_127_10, q_127_11, q_127_12, q_127_13, q_127_14, q_127_17, q_127_18, q_127_21, q_127_22, q_127_23, q_127_26, q_127_27, q_127_30, q_127_33, q_127_36, q_127_39, q_127_40, q_127_68, q_127_69, q_127_72, q_127_75, q_127_76, q_127_77, q_127_80, q_127_83, q_127_84, q_127_85, q_127_88, q_127_91, q_127_e, va_rf_s, bz_0, bz_1, bz_ok, bb_ok, Nat.add_assoc, w_lt, w_add, w_sub, w_mul, w_div, em_def, w_eq, w_inT, ↓ilt_t, ↓ilt_f, ↓ieq_t, ↓ieq_f, ntT, w_b, w_ix, kx_v, kx_n, kl_n, kl_i, kl_r, kl_o, inA_i, inA_s, inA_b, inA_z, inA_l, inA_0, inA_4, inA_5, inA_6, inA_7, inA_8, inA_9, inA_10, al_0, al_1, al_2, al_4, al_5, al_98, bsP_2, bsP_3, wr_same, wr_wr, wr_ne, up_same, up_ne, Nat.reduceAdd, Int.reduceAdd, Int.reduceSub, Int.reduceMul, Int.reduceLT, Int.reduceLE, Int.reduceEq, Int.reduceNeg, Int.reduceToNat, Nat.reduceLT, Nat.reduceLeDiff, Nat.reduceEqDiff, ↓reduceIte, true_and, and_true, not_true_eq_false, not_false_eq_true, eq_self, or_true, true_or, or_false, false_or, if_true, if_false, Int.toNat_natCast, w_ite, Nat.add_zero, reduceCtorEq, ne_eq, hc, s143, kx_t hk]
    exact CK.mis h (Rem.refl h) hf.1 hQ
theorem chA_0 {rs : List Rl} {p : Nat} {I : MI} {L : ML} {hh : Nat} {l : List Int} {st en : List Nat} : True := trivial
theorem sp_128 {l n q x : Int} (h : CR S I L R G c lo s) (hf : few s) (hl : B32 l) (hn : B32 n) (hq : B32 q) (hx : B32 x) (hQ : CK S I L R G c lo Q (outX (rWay s l n q x).1) (rWay s l n q x).2) : XC (d + 70) 128 [.ref c, .int (w l), .int (w n), .int (w q), .int (w x)] (mk S I L R G) Q := by
  have hc := h.1.1
  have hk : t_han 128 = [] := rfl
  unfold rWay at hQ
  by_cases cl : inL l
  · rw [if_pos cl] at hQ
    obtain ⟨k, g⟩ := h.lg cl
    have p141 := @g.p141
    have hk5 := g.hK.1
    have p143 := @g.p143
    simp (disch := omega) only [q_128_0, q_128_1, q_128_2, q_128_5, q_128_6, q_128_7, q_128_10, q_128_11, q_128_14, q_128_15, q_128_16, q_128_19, q_128_20, q_128_23, q_128_26, q_128_29, q_128_32, q_128_33, q_128_34, q_128_35, q_128_38, q_128_41, q_128_44, q_128_45, q_128_47, q_128_48, q_128_49, q_128_52, q_128_53, q_128_56, q_128_57, q_128_59, q_128_62, q_128_e, va_rf_s, bz_0, bz_1, bz_ok, bb_ok, Nat.add_assoc, w_lt, w_add, w_sub, w_mul, w_div, em_def, w_eq, w_inT, ↓ilt_t, ↓ilt_f, ↓ieq_t, ↓ieq_f, ntT, w_b, w_ix, kx_v, kx_n, kl_n, kl_i, kl_r, kl_o, inA_i, inA_s, inA_b, inA_z, inA_l, inA_0, inA_4, inA_5, inA_6, inA_7, inA_8, inA_9, inA_10, al_0, al_1, al_2, al_4, al_5, al_98, bsP_2, bsP_3, wr_same, wr_wr, wr_ne, up_same, up_ne, Nat.reduceAdd, Int.reduceAdd, Int.reduceSub, Int.reduceMul, Int.reduceLT, Int.reduceLE, Int.reduceEq, Int.reduceNeg, Int.reduceToNat, Nat.reduceLT, Nat.reduceLeDiff, Nat.reduceEqDiff, ↓reduceIte, true_and, and_true, not_true_eq_false, not_false_eq_true, eq_self, or_true, true_or, or_false, false_or, if_true, if_false, Int.toNat_natCast, w_ite, Nat.add_zero, reduceCtorEq, ne_eq, hc, p143]
    refine sp_147 h hn (fun e I1 hr1 => ?_) (fun y e I1 hr1 hC => ?_)
    · rw [e] at hQ
      simp (disch := omega) only [q_128_0, q_128_1, q_128_2, q_128_5, q_128_6, q_128_7, q_128_10, q_128_11, q_128_14, q_128_15, q_128_16, q_128_19, q_128_20, q_128_23, q_128_26, q_128_29, q_128_32, q_128_33, q_128_34, q_128_35, q_128_38, q_128_41, q_128_44, q_128_45, q_128_47, q_128_48, q_128_49, q_128_52, q_128_53, q_128_56, q_128_57, q_128_59, q_128_62, q_128_e, va_rf_s, bz_0, bz_1, bz_ok, bb_ok, Nat.add_assoc, w_lt, w_add, w_sub, w_mul, w_div, em_def, w_eq, w_inT, ↓ilt_t, ↓ilt_f, ↓ieq_t, ↓ieq_f, ntT, w_b, w_ix, kx_v, kx_n, kl_n, kl_i, kl_r, kl_o, inA_i, inA_s, inA_b, inA_z, inA_l, inA_0, inA_4, inA_5, inA_6, inA_7, inA_8, inA_9, inA_10, al_0, al_1, al_2, al_4, al_5, al_98, bsP_2, bsP_3, wr_same, wr_wr, wr_ne, up_same, up_ne, Nat.reduceAdd, Int.reduceAdd, Int.reduceSub, Int.reduceMul, Int.reduceLT, Int.reduceLE, Int.reduceEq, Int.reduceNeg, Int.reduceToNat, Nat.reduceLT, Nat.reduceLeDiff, Nat.reduceEqDiff, ↓reduceIte, true_and, and_true, not_true_eq_false, not_false_eq_true, eq_self, or_true, true_or, or_false, false_or, if_true, if_false, Int.toNat_natCast, w_ite, Nat.add_zero, reduceCtorEq, ne_eq, kx_t hk]
      exact CK.wro h hr1 hf.2 hQ
    · rw [e] at hQ
      dsimp only at hQ
      have h1 := hr1.cr h
      have hB := h.1.2.2.1.1
      obtain ⟨b1, b2, b3, b4⟩ := h1.bk
      have g1 := h1.lgk cl g
      simp (disch := omega) only [q_128_0, q_128_1, q_128_2, q_128_5, q_128_6, q_128_7, q_128_10, q_128_11, q_128_14, q_128_15, q_128_16, q_128_19, q_128_20, q_128_23, q_128_26, q_128_29, q_128_32, q_128_33, q_128_34, q_128_35, q_128_38, q_128_41, q_128_44, q_128_45, q_128_47, q_128_48, q_128_49, q_128_52, q_128_53, q_128_56, q_128_57, q_128_59, q_128_62, q_128_e, va_rf_s, bz_0, bz_1, bz_ok, bb_ok, Nat.add_assoc, w_lt, w_add, w_sub, w_mul, w_div, em_def, w_eq, w_inT, ↓ilt_t, ↓ilt_f, ↓ieq_t, ↓ieq_f, ntT, w_b, w_ix, kx_v, kx_n, kl_n, kl_i, kl_r, kl_o, inA_i, inA_s, inA_b, inA_z, inA_l, inA_0, inA_4, inA_5, inA_6, inA_7, inA_8, inA_9, inA_10, al_0, al_1, al_2, al_4, al_5, al_98, bsP_2, bsP_3, wr_same, wr_wr, wr_ne, up_same, up_ne, Nat.reduceAdd, Int.reduceAdd, Int.reduceSub, Int.reduceMul, Int.reduceLT, Int.reduceLE, Int.reduceEq, Int.reduceNeg, Int.reduceToNat, Nat.reduceLT, Nat.reduceLeDiff, Nat.reduceEqDiff, ↓reduceIte, true_and, and_true, not_true_eq_false, not_false_eq_true, eq_self, or_true, true_or, or_false, false_or, if_true, if_false, Int.toNat_natCast, w_ite, Nat.add_zero, reduceCtorEq, ne_eq, hc, p141, hk5, hB, b1]
      refine h1.prep cl g1 (fun I2 hr2 hf2 hM2 hO2 => ?_)
      have h2 := hr2.cr h1
      have g2 := h2.lgk cl g
      have gb := g.b1
      have gb2 := g.b2
      have hC2 : ChAt I2 (c + 112) y.1 y.2.1 y.2.2 := by
        unfold ChAt at hC ⊢
        rw [hf2 _ (by omega), hf2 _ (by omega), hf2 _ (by omega), hf2 _ (by omega)]
        exact hC
      have hch0 := h.1.2.2.2.2.2.2.2.2.2.1.1
      simp (disch := omega) only [q_128_0, q_128_1, q_128_2, q_128_5, q_128_6, q_128_7, q_128_10, q_128_11, q_128_14, q_128_15, q_128_16, q_128_19, q_128_20, q_128_23, q_128_26, q_128_29, q_128_32, q_128_33, q_128_34, q_128_35, q_128_38, q_128_41, q_128_44, q_128_45, q_128_47, q_128_48, q_128_49, q_128_52, q_128_53, q_128_56, q_128_57, q_128_59, q_128_62, q_128_e, va_rf_s, bz_0, bz_1, bz_ok, bb_ok, Nat.add_assoc, w_lt, w_add, w_sub, w_mul, w_div, em_def, w_eq, w_inT, ↓ilt_t, ↓ilt_f, ↓ieq_t, ↓ieq_f, ntT, w_b, w_ix, kx_v, kx_n, kl_n, kl_i, kl_r, kl_o, inA_i, inA_s, inA_b, inA_z, inA_l, inA_0, inA_4, inA_5, inA_6, inA_7, inA_8, inA_9, inA_10, al_0, al_1, al_2, al_4, al_5, al_98, bsP_2, bsP_3, wr_same, wr_wr, wr_ne, up_same, up_ne, Nat.reduceAdd, Int.reduceAdd, Int.reduceSub, Int.reduceMul, Int.reduceLT, Int.reduceLE, Int.reduceEq, Int.reduceNeg, Int.reduceToNat, Nat.reduceLT, Nat.reduceLeDiff, Nat.reduceEqDiff, ↓reduceIte, true_and, and_true, not_true_eq_false, not_false_eq_true, eq_self, or_true, true_or, or_false, false_or, if_true, if_false, Int.toNat_natCast, w_ite, Nat.add_zero, reduceCtorEq, ne_eq, hch0]
      refine h2.weigh (y := y) cl g2 (hrb_ok h e) hC2 hM2 hO2 (fun I3 L3 hr3 hD => ?_)
      have hr13 := (hr1.trans hr2).trans hr3
      have h3 := hr3.cr h2
      have hCh := h.1.2.2.2.2.2.2.2.2.2.1
      have s19 := fun {d : Nat} {Q : XO → Hp → Prop} => sp_19 (d := d) (Q := Q) (R := R) (G := G) hCh hD
      have hfb : -1 ≤ (chA (rlz s l) s.2.1.1 y.1 y.2.1 y.2.2 0).2.1 ∧ (chA (rlz s l) s.2.1.1 y.1 y.2.1 y.2.2 0).2.1 ≤ 40 := by
        have := (chE_bd (c := chC (rlz s l) s.2.1.1 y.1 y.2.1 y.2.2) (ls := chL (rlz s l) s.2.1.1 y.1 y.2.1 y.2.2) (hrb_ok h e).2.1 y.2.1.length 0 (by omega) (Nat.zero_le _)).2.2
        have h40 := (hrb_ok h e).2.1
        unfold chA
        omega
      by_cases cq : 0 ≤ q ∧ q < (chA (rlz s l) s.2.1.1 y.1 y.2.1 y.2.2 0).2.1
      · rw [if_pos cq] at hQ
        have s145 := fun {d : Nat} {Q : XO → Hp → Prop} => sp_145 (d := d) (Q := Q) (S := S) (I := I3) (L := L3) (R := R) (G := G) (c := c) (v := q) (h := (chA (rlz s l) s.2.1.1 y.1 y.2.1 y.2.2 0).2.1) cq hq.1 hq.2 (by omega) (by omega)
        by_cases cx : 0 ≤ x ∧ x ≤ 1
        · rw [if_pos cx] at hQ
          have hQ' := CK.ask h hr13 hQ
          dsimp only at hQ'
          unfold vWay at hQ'
          have s146 := fun {d : Nat} {Q : XO → Hp → Prop} => h3.in (d := d) (Q := Q) hx (y := 0) (z := 1) (by decide) (by decide) cx
          simp (disch := omega) only [q_128_0, q_128_1, q_128_2, q_128_5, q_128_6, q_128_7, q_128_10, q_128_11, q_128_14, q_128_15, q_128_16, q_128_19, q_128_20, q_128_23, q_128_26, q_128_29, q_128_32, q_128_33, q_128_34, q_128_35, q_128_38, q_128_41, q_128_44, q_128_45, q_128_47, q_128_48, q_128_49, q_128_52, q_128_53, q_128_56, q_128_57, q_128_59, q_128_62, q_128_e, va_rf_s, bz_0, bz_1, bz_ok, bb_ok, Nat.add_assoc, w_lt, w_add, w_sub, w_mul, w_div, em_def, w_eq, w_inT, ↓ilt_t, ↓ilt_f, ↓ieq_t, ↓ieq_f, ntT, w_b, w_ix, kx_v, kx_n, kl_n, kl_i, kl_r, kl_o, inA_i, inA_s, inA_b, inA_z, inA_l, inA_0, inA_4, inA_5, inA_6, inA_7, inA_8, inA_9, inA_10, al_0, al_1, al_2, al_4, al_5, al_98, bsP_2, bsP_3, wr_same, wr_wr, wr_ne, up_same, up_ne, Nat.reduceAdd, Int.reduceAdd, Int.reduceSub, Int.reduceMul, Int.reduceLT, Int.reduceLE, Int.reduceEq, Int.reduceNeg, Int.reduceToNat, Nat.reduceLT, Nat.reduceLeDiff, Nat.reduceEqDiff, ↓reduceIte, true_and, and_true, not_true_eq_false, not_false_eq_true, eq_self, or_true, true_or, or_false, false_or, if_true, if_false, Int.toNat_natCast, w_ite, Nat.add_zero, reduceCtorEq, ne_eq, hc, hch0, s19, s145, s146]
          have s21 := fun {d : Nat} {Q : XO → Hp → Prop} => sp_21 (d := d) (Q := Q) (R := R) (G := G) (k := q.toNat) (wh := x.toNat) hCh hD (by omega) (by omega)
          rw [show ((q.toNat : Nat) : Int) = q by omega, show ((x.toNat : Nat) : Int) = x by omega] at s21
          refine s21.mpr ?_
          simp (disch := omega) only [q_128_0, q_128_1, q_128_2, q_128_5, q_128_6, q_128_7, q_128_10, q_128_11, q_128_14, q_128_15, q_128_16, q_128_19, q_128_20, q_128_23, q_128_26, q_128_29, q_128_32, q_128_33, q_128_34, q_128_35, q_128_38, q_128_41, q_128_44, q_128_45, q_128_47, q_128_48, q_128_49, q_128_52, q_128_53, q_128_56, q_128_57, q_128_59, q_128_62, q_128_e, va_rf_s, bz_0, bz_1, bz_ok, bb_ok, Nat.add_assoc, w_lt, w_add, w_sub, w_mul, w_div, em_def, w_eq, w_inT, ↓ilt_t, ↓ilt_f, ↓ieq_t, ↓ieq_f, ntT, w_b, w_ix, kx_v, kx_n, kl_n, kl_i, kl_r, kl_o, inA_i, inA_s, inA_b, inA_z, inA_l, inA_0, inA_4, inA_5, inA_6, inA_7, inA_8, inA_9, inA_10, al_0, al_1, al_2, al_4, al_5, al_98, bsP_2, bsP_3, wr_same, wr_wr, wr_ne, up_same, up_ne, Nat.reduceAdd, Int.reduceAdd, Int.reduceSub, Int.reduceMul, Int.reduceLT, Int.reduceLE, Int.reduceEq, Int.reduceNeg, Int.reduceToNat, Nat.reduceLT, Nat.reduceLeDiff, Nat.reduceEqDiff, ↓reduceIte, true_and, and_true, not_true_eq_false, not_false_eq_true, eq_self, or_true, true_or, or_false, false_or, if_true, if_false, Int.toNat_natCast, w_ite, Nat.add_zero, reduceCtorEq, ne_eq]
          by_cases c0 : x = 0
          · rw [if_pos (by omega)]
            rw [if_pos c0] at hQ'
            exact hQ'
          · rw [if_neg (by omega)]
            rw [if_neg c0] at hQ'
            exact hQ'
        · rw [if_neg cx] at hQ
          have s146 := fun {d : Nat} {Q : XO → Hp → Prop} => h3.noI (d := d) (Q := Q) hx (y := 0) (z := 1) (by decide) (by decide) cx
          simp (disch := omega) only [q_128_0, q_128_1, q_128_2, q_128_5, q_128_6, q_128_7, q_128_10, q_128_11, q_128_14, q_128_15, q_128_16, q_128_19, q_128_20, q_128_23, q_128_26, q_128_29, q_128_32, q_128_33, q_128_34, q_128_35, q_128_38, q_128_41, q_128_44, q_128_45, q_128_47, q_128_48, q_128_49, q_128_52, q_128_53, q_128_56, q_128_57, q_128_59, q_128_62, q_128_e, va_rf_s, bz_0, bz_1, bz_ok, bb_ok, Nat.add_assoc, w_lt, w_add, w_sub, w_mul, w_div, em_def, w_eq, w_inT, ↓ilt_t, ↓ilt_f, ↓ieq_t, ↓ieq_f, ntT, w_b, w_ix, kx_v, kx_n, kl_n, kl_i, kl_r, kl_o, inA_i, inA_s, inA_b, inA_z, inA_l, inA_0, inA_4, inA_5, inA_6, inA_7, inA_8, inA_9, inA_10, al_0, al_1, al_2, al_4, al_5, al_98, bsP_2, bsP_3, wr_same, wr_wr, wr_ne, up_same, up_ne, Nat.reduceAdd, Int.reduceAdd, Int.reduceSub, Int.reduceMul, Int.reduceLT, Int.reduceLE, Int.reduceEq, Int.reduceNeg, Int.reduceToNat, Nat.reduceLT, Nat.reduceLeDiff, Nat.reduceEqDiff, ↓reduceIte, true_and, and_true, not_true_eq_false, not_false_eq_true, eq_self, or_true, true_or, or_false, false_or, if_true, if_false, Int.toNat_natCast, w_ite, Nat.add_zero, reduceCtorEq, ne_eq, hc, hch0, s19, s145, s146, kx_t hk]
          exact CK.wro h hr13 hf.2 hQ
      · rw [if_neg cq] at hQ
        have s145 := fun {d : Nat} {Q : XO → Hp → Prop} => sp_145x (d := d) (Q := Q) (S := S) (I := I3) (L := L3) (R := R) (G := G) (c := c) (v := q) (h := (chA (rlz s l) s.2.1.1 y.1 y.2.1 y.2.2 0).2.1) hc h3.2.2.2.2.2.2.2.2.2.2.2.1 (by omega) hq.1 hq.2 (by omega) (by omega)
        simp (disch := omega) only [q_128_0, q_128_1, q_128_2, q_128_5, q_128_6, q_128_7, q_128_10, q_128_11, q_128_14, q_128_15, q_128_16, q_128_19, q_128_20, q_128_23, q_128_26, q_128_29, q_128_32, q_128_33, q_128_34, q_128_35, q_128_38, q_128_41, q_128_44, q_128_45, q_128_47, q_128_48, q_128_49, q_128_52, q_128_53, q_128_56, q_128_57, q_128_59, q_128_62, q_128_e, va_rf_s, bz_0, bz_1, bz_ok, bb_ok, Nat.add_assoc, w_lt, w_add, w_sub, w_mul, w_div, em_def, w_eq, w_inT, ↓ilt_t, ↓ilt_f, ↓ieq_t, ↓ieq_f, ntT, w_b, w_ix, kx_v, kx_n, kl_n, kl_i, kl_r, kl_o, inA_i, inA_s, inA_b, inA_z, inA_l, inA_0, inA_4, inA_5, inA_6, inA_7, inA_8, inA_9, inA_10, al_0, al_1, al_2, al_4, al_5, al_98, bsP_2, bsP_3, wr_same, wr_wr, wr_ne, up_same, up_ne, Nat.reduceAdd, Int.reduceAdd, Int.reduceSub, Int.reduceMul, Int.reduceLT, Int.reduceLE, Int.reduceEq, Int.reduceNeg, Int.reduceToNat, Nat.reduceLT, Nat.reduceLeDiff, Nat.reduceEqDiff, ↓reduceIte, true_and, and_true, not_true_eq_false, not_false_eq_true, eq_self, or_true, true_or, or_false, false_or, if_true, if_false, Int.toNat_natCast, w_ite, Nat.add_zero, reduceCtorEq, ne_eq, hc, hch0, s19, s145, kx_t hk]
        exact CK.mis h hr13 hf.1 hQ
  · rw [if_neg cl] at hQ
    have s143 := fun {d : Nat} {Q : XO → Hp → Prop} => h.noL (d := d) (Q := Q) hl cl
    simp (disch := omega) only [q_128_0, q_128_1, q_128_2, q_128_5, q_128_6, q_128_7, q_128_10, q_128_11, q_128_14, q_128_15, q_128_16, q_128_19, q_128_20, q_128_23, q_128_26, q_128_29, q_128_32, q_128_33, q_128_34, q_128_35, q_128_38, q_128_41, q_128_44, q_128_45, q_128_47, q_128_48, q_128_49, q_128_52, q_128_53, q_128_56, q_128_57, q_128_59, q_128_62, q_128_e, va_rf_s, bz_0, bz_1, bz_ok, bb_ok, Nat.add_assoc, w_lt, w_add, w_sub, w_mul, w_div, em_def, w_eq, w_inT, ↓ilt_t, ↓ilt_f, ↓ieq_t, ↓ieq_f, ntT, w_b, w_ix, kx_v, kx_n, kl_n, kl_i, kl_r, kl_o, inA_i, inA_s, inA_b, inA_z, inA_l, inA_0, inA_4, inA_5, inA_6, inA_7, inA_8, inA_9, inA_10, al_0, al_1, al_2, al_4, al_5, al_98, bsP_2, bsP_3, wr_same, wr_wr, wr_ne, up_same, up_ne, Nat.reduceAdd, Int.reduceAdd, Int.reduceSub, Int.reduceMul, Int.reduceLT, Int.reduceLE, Int.reduceEq, Int.reduceNeg, Int.reduceToNat, Nat.reduceLT, Nat.reduceLeDiff, Nat.reduceEqDiff, ↓reduceIte, true_and, and_true, not_true_eq_false, not_false_eq_true, eq_self, or_true, true_or, or_false, false_or, if_true, if_false, Int.toNat_natCast, w_ite, Nat.add_zero, reduceCtorEq, ne_eq, hc, s143, kx_t hk]
    exact CK.mis h (Rem.refl h) hf.1 hQ
theorem sp_129 {l n : Int} (h : CR S I L R G c lo s) (hf : few s) (hl : B32 l) (hn : B32 n) (hQ : CK S I L R G c lo Q (outX (rStr s l n).1) (rStr s l n).2) : XC (d + 70) 129 [.ref c, .int (w l), .int (w n)] (mk S I L R G) Q := by
  have hc := h.1.1
  have hk : t_han 129 = [] := rfl
  unfold rStr at hQ
  by_cases cl : inL l
  · rw [if_pos cl] at hQ
    obtain ⟨k, g⟩ := h.lg cl
    have p141 := @g.p141
    have hk5 := g.hK.1
    have p143 := @g.p143
    simp (disch := omega) only [q_129_0, q_129_1, q_129_2, q_129_5, q_129_6, q_129_7, q_129_10, q_129_11, q_129_14, q_129_15, q_129_16, q_129_19, q_129_20, q_129_23, q_129_26, q_129_29, q_129_32, q_129_33, q_129_36, q_129_39, q_129_e, va_rf_s, bz_0, bz_1, bz_ok, bb_ok, Nat.add_assoc, w_lt, w_add, w_sub, w_mul, w_div, em_def, w_eq, w_inT, ↓ilt_t, ↓ilt_f, ↓ieq_t, ↓ieq_f, ntT, w_b, w_ix, kx_v, kx_n, kl_n, kl_i, kl_r, kl_o, inA_i, inA_s, inA_b, inA_z, inA_l, inA_0, inA_4, inA_5, inA_6, inA_7, inA_8, inA_9, inA_10, al_0, al_1, al_2, al_4, al_5, al_98, bsP_2, bsP_3, wr_same, wr_wr, wr_ne, up_same, up_ne, Nat.reduceAdd, Int.reduceAdd, Int.reduceSub, Int.reduceMul, Int.reduceLT, Int.reduceLE, Int.reduceEq, Int.reduceNeg, Int.reduceToNat, Nat.reduceLT, Nat.reduceLeDiff, Nat.reduceEqDiff, ↓reduceIte, true_and, and_true, not_true_eq_false, not_false_eq_true, eq_self, or_true, true_or, or_false, false_or, if_true, if_false, Int.toNat_natCast, w_ite, Nat.add_zero, reduceCtorEq, ne_eq, hc, p143]
    refine sp_147 h hn (fun e I1 hr1 => ?_) (fun y e I1 hr1 hC => ?_)
    · rw [e] at hQ
      simp (disch := omega) only [q_129_0, q_129_1, q_129_2, q_129_5, q_129_6, q_129_7, q_129_10, q_129_11, q_129_14, q_129_15, q_129_16, q_129_19, q_129_20, q_129_23, q_129_26, q_129_29, q_129_32, q_129_33, q_129_36, q_129_39, q_129_e, va_rf_s, bz_0, bz_1, bz_ok, bb_ok, Nat.add_assoc, w_lt, w_add, w_sub, w_mul, w_div, em_def, w_eq, w_inT, ↓ilt_t, ↓ilt_f, ↓ieq_t, ↓ieq_f, ntT, w_b, w_ix, kx_v, kx_n, kl_n, kl_i, kl_r, kl_o, inA_i, inA_s, inA_b, inA_z, inA_l, inA_0, inA_4, inA_5, inA_6, inA_7, inA_8, inA_9, inA_10, al_0, al_1, al_2, al_4, al_5, al_98, bsP_2, bsP_3, wr_same, wr_wr, wr_ne, up_same, up_ne, Nat.reduceAdd, Int.reduceAdd, Int.reduceSub, Int.reduceMul, Int.reduceLT, Int.reduceLE, Int.reduceEq, Int.reduceNeg, Int.reduceToNat, Nat.reduceLT, Nat.reduceLeDiff, Nat.reduceEqDiff, ↓reduceIte, true_and, and_true, not_true_eq_false, not_false_eq_true, eq_self, or_true, true_or, or_false, false_or, if_true, if_false, Int.toNat_natCast, w_ite, Nat.add_zero, reduceCtorEq, ne_eq, kx_t hk]
      exact CK.wro h hr1 hf.2 hQ
    · rw [e] at hQ
      dsimp only at hQ
      have h1 := hr1.cr h
      have hB := h.1.2.2.1.1
      obtain ⟨b1, b2, b3, b4⟩ := h1.bk
      have g1 := h1.lgk cl g
      simp (disch := omega) only [q_129_0, q_129_1, q_129_2, q_129_5, q_129_6, q_129_7, q_129_10, q_129_11, q_129_14, q_129_15, q_129_16, q_129_19, q_129_20, q_129_23, q_129_26, q_129_29, q_129_32, q_129_33, q_129_36, q_129_39, q_129_e, va_rf_s, bz_0, bz_1, bz_ok, bb_ok, Nat.add_assoc, w_lt, w_add, w_sub, w_mul, w_div, em_def, w_eq, w_inT, ↓ilt_t, ↓ilt_f, ↓ieq_t, ↓ieq_f, ntT, w_b, w_ix, kx_v, kx_n, kl_n, kl_i, kl_r, kl_o, inA_i, inA_s, inA_b, inA_z, inA_l, inA_0, inA_4, inA_5, inA_6, inA_7, inA_8, inA_9, inA_10, al_0, al_1, al_2, al_4, al_5, al_98, bsP_2, bsP_3, wr_same, wr_wr, wr_ne, up_same, up_ne, Nat.reduceAdd, Int.reduceAdd, Int.reduceSub, Int.reduceMul, Int.reduceLT, Int.reduceLE, Int.reduceEq, Int.reduceNeg, Int.reduceToNat, Nat.reduceLT, Nat.reduceLeDiff, Nat.reduceEqDiff, ↓reduceIte, true_and, and_true, not_true_eq_false, not_false_eq_true, eq_self, or_true, true_or, or_false, false_or, if_true, if_false, Int.toNat_natCast, w_ite, Nat.add_zero, reduceCtorEq, ne_eq, hc, p141, hk5, hB, b1]
      refine h1.prep cl g1 (fun I2 hr2 hf2 hM2 hO2 => ?_)
      have h2 := hr2.cr h1
      have g2 := h2.lgk cl g
      have gb := g.b1
      have gb2 := g.b2
      have hC2 : ChAt I2 (c + 112) y.1 y.2.1 y.2.2 := by
        unfold ChAt at hC ⊢
        rw [hf2 _ (by omega), hf2 _ (by omega), hf2 _ (by omega), hf2 _ (by omega)]
        exact hC
      have hch0 := h.1.2.2.2.2.2.2.2.2.2.1.1
      simp (disch := omega) only [q_129_0, q_129_1, q_129_2, q_129_5, q_129_6, q_129_7, q_129_10, q_129_11, q_129_14, q_129_15, q_129_16, q_129_19, q_129_20, q_129_23, q_129_26, q_129_29, q_129_32, q_129_33, q_129_36, q_129_39, q_129_e, va_rf_s, bz_0, bz_1, bz_ok, bb_ok, Nat.add_assoc, w_lt, w_add, w_sub, w_mul, w_div, em_def, w_eq, w_inT, ↓ilt_t, ↓ilt_f, ↓ieq_t, ↓ieq_f, ntT, w_b, w_ix, kx_v, kx_n, kl_n, kl_i, kl_r, kl_o, inA_i, inA_s, inA_b, inA_z, inA_l, inA_0, inA_4, inA_5, inA_6, inA_7, inA_8, inA_9, inA_10, al_0, al_1, al_2, al_4, al_5, al_98, bsP_2, bsP_3, wr_same, wr_wr, wr_ne, up_same, up_ne, Nat.reduceAdd, Int.reduceAdd, Int.reduceSub, Int.reduceMul, Int.reduceLT, Int.reduceLE, Int.reduceEq, Int.reduceNeg, Int.reduceToNat, Nat.reduceLT, Nat.reduceLeDiff, Nat.reduceEqDiff, ↓reduceIte, true_and, and_true, not_true_eq_false, not_false_eq_true, eq_self, or_true, true_or, or_false, false_or, if_true, if_false, Int.toNat_natCast, w_ite, Nat.add_zero, reduceCtorEq, ne_eq, hch0]
      refine h2.weigh (y := y) cl g2 (hrb_ok h e) hC2 hM2 hO2 (fun I3 L3 hr3 hD => ?_)
      have hQ' := CK.ask h ((hr1.trans hr2).trans hr3) hQ
      have hCh := h.1.2.2.2.2.2.2.2.2.2.1
      have e8 := hD.2.2
      have hCh0 := hCh.1
      simp (disch := omega) only [q_129_0, q_129_1, q_129_2, q_129_5, q_129_6, q_129_7, q_129_10, q_129_11, q_129_14, q_129_15, q_129_16, q_129_19, q_129_20, q_129_23, q_129_26, q_129_29, q_129_32, q_129_33, q_129_36, q_129_39, q_129_e, va_rf_s, bz_0, bz_1, bz_ok, bb_ok, Nat.add_assoc, w_lt, w_add, w_sub, w_mul, w_div, em_def, w_eq, w_inT, ↓ilt_t, ↓ilt_f, ↓ieq_t, ↓ieq_f, ntT, w_b, w_ix, kx_v, kx_n, kl_n, kl_i, kl_r, kl_o, inA_i, inA_s, inA_b, inA_z, inA_l, inA_0, inA_4, inA_5, inA_6, inA_7, inA_8, inA_9, inA_10, al_0, al_1, al_2, al_4, al_5, al_98, bsP_2, bsP_3, wr_same, wr_wr, wr_ne, up_same, up_ne, Nat.reduceAdd, Int.reduceAdd, Int.reduceSub, Int.reduceMul, Int.reduceLT, Int.reduceLE, Int.reduceEq, Int.reduceNeg, Int.reduceToNat, Nat.reduceLT, Nat.reduceLeDiff, Nat.reduceEqDiff, ↓reduceIte, true_and, and_true, not_true_eq_false, not_false_eq_true, eq_self, or_true, true_or, or_false, false_or, if_true, if_false, Int.toNat_natCast, w_ite, Nat.add_zero, reduceCtorEq, ne_eq, hc, hCh0, e8]
      exact hQ'
  · rw [if_neg cl] at hQ
    have s143 := fun {d : Nat} {Q : XO → Hp → Prop} => h.noL (d := d) (Q := Q) hl cl
    simp (disch := omega) only [q_129_0, q_129_1, q_129_2, q_129_5, q_129_6, q_129_7, q_129_10, q_129_11, q_129_14, q_129_15, q_129_16, q_129_19, q_129_20, q_129_23, q_129_26, q_129_29, q_129_32, q_129_33, q_129_36, q_129_39, q_129_e, va_rf_s, bz_0, bz_1, bz_ok, bb_ok, Nat.add_assoc, w_lt, w_add, w_sub, w_mul, w_div, em_def, w_eq, w_inT, ↓ilt_t, ↓ilt_f, ↓ieq_t, ↓ieq_f, ntT, w_b, w_ix, kx_v, kx_n, kl_n, kl_i, kl_r, kl_o, inA_i, inA_s, inA_b, inA_z, inA_l, inA_0, inA_4, inA_5, inA_6, inA_7, inA_8, inA_9, inA_10, al_0, al_1, al_2, al_4, al_5, al_98, bsP_2, bsP_3, wr_same, wr_wr, wr_ne, up_same, up_ne, Nat.reduceAdd, Int.reduceAdd, Int.reduceSub, Int.reduceMul, Int.reduceLT, Int.reduceLE, Int.reduceEq, Int.reduceNeg, Int.reduceToNat, Nat.reduceLT, Nat.reduceLeDiff, Nat.reduceEqDiff, ↓reduceIte, true_and, and_true, not_true_eq_false, not_false_eq_true, eq_self, or_true, true_or, or_false, false_or, if_true, if_false, Int.toNat_natCast, w_ite, Nat.add_zero, reduceCtorEq, ne_eq, hc, s143, kx_t hk]
    exact CK.mis h (Rem.refl h) hf.1 hQ
end

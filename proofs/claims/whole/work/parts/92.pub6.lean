/-! the class's calls that ask the rankings: order, alike, read, heard -/
def vOrder (rs : List Rl) (h : Nat) (k : Int) : Int := if 0 ≤ k ∧ k < (ordl rs h).length then ((ordl rs h).getD k.toNat 0 : Int) else -1
def vAlike (rs : List Rl) (h : Nat) (x : Int) : Int := if x = 0 then (alF rs (ordl rs h) (ordl rs h).length).1 else if x = 1 then (alF rs (ordl rs h) (ordl rs h).length).2.1 else if x = 2 then (alF rs (ordl rs h) (ordl rs h).length).2.2.1 else (alF rs (ordl rs h) (ordl rs h).length).2.2.2
def vRead (rs : List Rl) (h : Nat) (t : List Int) (x : Int) : Int := if x = 0 then ((rd rs h t).length : Int) else if x = 1 then fstz (rd rs h t) else lstz (rd rs h t)
def rRead (s : St) (l n x : Int) : Res := if inL l then (if (0 ≤ n ∧ n ≤ s.1.length) ∧ 0 ≤ x ∧ x ≤ 2 then (.inl (vRead (rlz s l) s.2.1.1 ((s.1.take n.toNat).map sb) x), s) else rWron s) else rMiss s
def vHeard (rs ro : List Rl) (h : Nat) (n : Int) : Int := match T ro n with
  | none => -1
  | some t => ((rd rs h t).length : Int)
def rHeard (s : St) (l n : Int) : Res := if inL l then (.inl (vHeard (rlz s l) (rlz s (1 - l)) s.2.1.1 n), s) else rMiss s
theorem bk_eta (h : Nat) (t : List Int) : True := trivial
section
variable {d : Nat} {Q : XO → Hp → Prop} {S : SH} {I : MI} {L : ML} {R : MR} {G : MG} {A : Hp}
variable {c lo : Nat} {s : St}
theorem CR.rk {I' : MI} {L' : ML} (h : CR S I L R G c lo s) (e0 : ∀ a, (a < c + 44 ∨ c + 121 ≤ a) → I' a = I a ∧ L' a = L a) (e1 : ∀ l, l < 2 → ∀ a, c + 51 + 20 * l < a → a < c + 51 + 20 * l + 20 → I' a = I a) (e2 : ∀ l, l < 2 → ∀ j, j < 5 → I' (c + 51 + 20 * l) j = I (c + 51 + 20 * l) j) : Rem S I L R c s I' L' := by
  refine ⟨fun a ha => e0 a (by omega), fun a h1 h2 => (e0 a (by omega)).1, fun l hl => ?_⟩
  obtain ⟨k1, ⟨k2, k3, k4, k5⟩, k6⟩ := h.rank hl
  have e1 := e1 l hl
  have e2 := e2 l hl
  have far := h.ruleFar hl
  generalize c + 51 + 20 * l = k at *
  have hv := vq.same k3 k4 (I' := I') (fun a ha hb => e1 a (by omega) (by omega))
  refine ⟨k2.keep hv.1 (fun _ _ => rfl) (fun i r hi hr y y1 y2 => ?_), hv.2.1, hv.2.2.1, ?_⟩
  · have := far i r hi hr
    exact ⟨rfl, e0 y (by omega)⟩
  · rcases k5 with h4 | ⟨p, p1, p2, p3⟩
    · exact Or.inl (by rw [e2 4 (by decide)]; exact h4)
    · exact Or.inr ⟨p, p1, by rw [e2 4 (by decide)]; exact p2, p3.keep p1 (e2 3 (by decide)) (e1 _ (by omega) (by omega)) hv⟩
theorem CR.prep {l : Int} {k : Nat} (h : CR S I L R G c lo s) (cl : inL l) (g : Lg S I L R G c lo s l k) (hQ : ∀ I' : MI, Rem S I L R c s I' L → (∀ a, (a < k ∨ k + 20 ≤ a) → I' a = I a) → MInv (rlz s l) I' (k + 1) → Ready (rlz s l) I' k s.2.1.1 → Q (.inl (some (.ref k))) (mk S I' L R G)) : XC (d + 68) 43 [.ref k, .int (w s.2.1.1)] (mk S I L R G) Q := by
  obtain ⟨b1, b2, b3, b4⟩ := h.bk
  have gb := g.b1
  have gb2 := g.b2
  have hlo := h.2.1
  refine sp_43 g.hK g.hR (fun i hi r hr => by have := g.hl i hi r hr; omega) g.hM g.hU g.hO b3 (fun I' hf hq h4 hO => ?_)
  refine hQ I' ⟨fun a ha => ⟨hf a (by omega), rfl⟩, fun a h1 h2 => hf a (by omega), fun l' hl' => ?_⟩ hf hq.2.1 hO
  obtain ⟨k1, k2, k6⟩ := h.rank hl'
  have far := h.ruleFar hl'
  by_cases e : l' = l.toNat
  · have ek : c + 51 + 20 * l' = k := by rw [e]; exact g.hk.symm
    have er : s.2.1.2 l' = rlz s l := by rw [e]; rfl
    rw [ek, er]
    rw [ek, er] at far
    exact ⟨g.hR.keep hq.1 (fun _ _ => rfl) (fun i r hi hr y y1 y2 => ⟨rfl, hf y (by have := far i r hi hr; omega), rfl⟩), hq.2.1, hq.2.2.1, Or.inr ⟨_, b3, h4, hO⟩⟩
  · have ek := g.hk
    exact k2.keep (fun a h1 h2 => hf a (by omega)) (fun _ _ => rfl) (fun i r hi hr y y1 y2 => ⟨rfl, hf y (by have := far i r hi hr; omega), rfl⟩)
theorem CR.rk1 {l : Int} {k : Nat} {I' : MI} (h : CR S I L R G c lo s) (cl : inL l) (g : Lg S I L R G c lo s l k) (e1 : ∀ a, a ≠ k → I' a = I a) (e2 : ∀ j, j < 5 → I' k j = I k j) : Rem S I L R c s I' L := by
  have gb := g.b1
  have gb2 := g.b2
  have ek := g.hk
  refine h.rk (fun a ha => ⟨e1 a (by omega), rfl⟩) (fun l' hl' a h1 h2 => e1 a (by omega)) (fun l' hl' j hj => ?_)
  by_cases e : c + 51 + 20 * l' = k
  · rw [e]; exact e2 j hj
  · rw [e1 _ e]
theorem sp_132 {l x : Int} (h : CR S I L R G c lo s) (hf : few s) (hl : B32 l) (hx : B32 x) (hQ : CK S I L R G c lo Q (outX (rLg s l (fun rs => vOrder rs s.2.1.1 x)).1) (rLg s l (fun rs => vOrder rs s.2.1.1 x)).2) : XC (d + 70) 132 [.ref c, .int (w l), .int (w x)] (mk S I L R G) Q := by
  have hc := h.1.1
  have hk : t_han 132 = [] := rfl
  unfold rLg at hQ
  by_cases cl : inL l
  · rw [if_pos cl] at hQ
    obtain ⟨k, g⟩ := h.lg cl
    have p141 := @g.p141
    have hk5 := g.hK.1
    have p143 := @g.p143
    have hB := h.1.2.2.1.1
    obtain ⟨b1, b2, b3, b4⟩ := h.bk
    simp (disch := omega) only [q_132_0, q_132_1, q_132_2, q_132_5, q_132_6, q_132_7, q_132_10, q_132_11, q_132_14, q_132_17, q_132_20, q_132_21, q_132_24, q_132_e, va_rf_s, bz_0, bz_1, bz_ok, bb_ok, Nat.add_assoc, w_lt, w_add, w_sub, w_mul, w_div, em_def, w_eq, w_inT, ↓ilt_t, ↓ilt_f, ↓ieq_t, ↓ieq_f, ntT, w_b, w_ix, kx_v, kx_n, kl_n, kl_i, kl_r, kl_o, inA_i, inA_s, inA_b, inA_z, inA_l, inA_0, inA_4, inA_5, inA_6, inA_7, inA_8, inA_9, inA_10, al_0, al_1, al_2, al_4, al_5, al_98, bsP_2, bsP_3, wr_same, wr_wr, wr_ne, up_same, up_ne, Nat.reduceAdd, Int.reduceAdd, Int.reduceSub, Int.reduceMul, Int.reduceLT, Int.reduceLE, Int.reduceEq, Int.reduceNeg, Int.reduceToNat, Nat.reduceLT, Nat.reduceLeDiff, Nat.reduceEqDiff, ↓reduceIte, true_and, and_true, not_true_eq_false, not_false_eq_true, eq_self, or_true, true_or, or_false, false_or, if_true, if_false, Int.toNat_natCast, w_ite, Nat.add_zero, reduceCtorEq, ne_eq, hc, p143, p141, hk5, hB, b1]
    refine h.prep cl g (fun I' hr hf' hM' hO => ?_)
    have hL : (ordl (rlz s l) s.2.1.1).length ≤ 1001 := by rw [ordl_len]; have := saidl_len (rs := rlz s l) (h := s.2.1.1); omega
    have s47 := fun {d : Nat} {Q : XO → Hp → Prop} => sp_47 (d := d) (Q := Q) (L := L) (R := R) (G := G) g.hK hO.1 hL hO.2.1 hx.1 hx.2
    simp (disch := omega) only [q_132_0, q_132_1, q_132_2, q_132_5, q_132_6, q_132_7, q_132_10, q_132_11, q_132_14, q_132_17, q_132_20, q_132_21, q_132_24, q_132_e, va_rf_s, bz_0, bz_1, bz_ok, bb_ok, Nat.add_assoc, w_lt, w_add, w_sub, w_mul, w_div, em_def, w_eq, w_inT, ↓ilt_t, ↓ilt_f, ↓ieq_t, ↓ieq_f, ntT, w_b, w_ix, kx_v, kx_n, kl_n, kl_i, kl_r, kl_o, inA_i, inA_s, inA_b, inA_z, inA_l, inA_0, inA_4, inA_5, inA_6, inA_7, inA_8, inA_9, inA_10, al_0, al_1, al_2, al_4, al_5, al_98, bsP_2, bsP_3, wr_same, wr_wr, wr_ne, up_same, up_ne, Nat.reduceAdd, Int.reduceAdd, Int.reduceSub, Int.reduceMul, Int.reduceLT, Int.reduceLE, Int.reduceEq, Int.reduceNeg, Int.reduceToNat, Nat.reduceLT, Nat.reduceLeDiff, Nat.reduceEqDiff, ↓reduceIte, true_and, and_true, not_true_eq_false, not_false_eq_true, eq_self, or_true, true_or, or_false, false_or, if_true, if_false, Int.toNat_natCast, w_ite, Nat.add_zero, reduceCtorEq, ne_eq, hk5, s47]
    exact CK.ask h hr hQ
  · rw [if_neg cl] at hQ
    have s143 := fun {d : Nat} {Q : XO → Hp → Prop} => h.noL (d := d) (Q := Q) hl cl
    simp (disch := omega) only [q_132_0, q_132_1, q_132_2, q_132_5, q_132_6, q_132_7, q_132_10, q_132_11, q_132_14, q_132_17, q_132_20, q_132_21, q_132_24, q_132_e, va_rf_s, bz_0, bz_1, bz_ok, bb_ok, Nat.add_assoc, w_lt, w_add, w_sub, w_mul, w_div, em_def, w_eq, w_inT, ↓ilt_t, ↓ilt_f, ↓ieq_t, ↓ieq_f, ntT, w_b, w_ix, kx_v, kx_n, kl_n, kl_i, kl_r, kl_o, inA_i, inA_s, inA_b, inA_z, inA_l, inA_0, inA_4, inA_5, inA_6, inA_7, inA_8, inA_9, inA_10, al_0, al_1, al_2, al_4, al_5, al_98, bsP_2, bsP_3, wr_same, wr_wr, wr_ne, up_same, up_ne, Nat.reduceAdd, Int.reduceAdd, Int.reduceSub, Int.reduceMul, Int.reduceLT, Int.reduceLE, Int.reduceEq, Int.reduceNeg, Int.reduceToNat, Nat.reduceLT, Nat.reduceLeDiff, Nat.reduceEqDiff, ↓reduceIte, true_and, and_true, not_true_eq_false, not_false_eq_true, eq_self, or_true, true_or, or_false, false_or, if_true, if_false, Int.toNat_natCast, w_ite, Nat.add_zero, reduceCtorEq, ne_eq, hc, s143, kx_t hk]
    exact CK.mis h (Rem.refl h) hf.1 hQ
theorem sp_125 {l x : Int} (h : CR S I L R G c lo s) (hf : few s) (hl : B32 l) (hx : B32 x) (hQ : CK S I L R G c lo Q (outX (rLx s l x 3 (fun rs => vAlike rs s.2.1.1 x)).1) (rLx s l x 3 (fun rs => vAlike rs s.2.1.1 x)).2) : XC (d + 70) 125 [.ref c, .int (w l), .int (w x)] (mk S I L R G) Q := by
  have hc := h.1.1
  have hk : t_han 125 = [] := rfl
  unfold rLx at hQ
  by_cases cl : inL l
  · rw [if_pos cl] at hQ
    obtain ⟨k, g⟩ := h.lg cl
    have p141 := @g.p141
    have hk5 := g.hK.1
    have p143 := @g.p143
    by_cases cx : 0 ≤ x ∧ x ≤ 3
    · rw [if_pos cx] at hQ
      have s146 := fun {d : Nat} {Q : XO → Hp → Prop} => h.in (d := d) (Q := Q) hx (y := 0) (z := 3) (by decide) (by decide) cx
      have hB := h.1.2.2.1.1
      obtain ⟨b1, b2, b3, b4⟩ := h.bk
      simp (disch := omega) only [q_125_0, q_125_1, q_125_2, q_125_5, q_125_6, q_125_7, q_125_8, q_125_9, q_125_12, q_125_13, q_125_14, q_125_17, q_125_18, q_125_21, q_125_24, q_125_27, q_125_28, q_125_29, q_125_32, q_125_33, q_125_60, q_125_61, q_125_64, q_125_65, q_125_66, q_125_69, q_125_70, q_125_71, q_125_74, q_125_75, q_125_76, q_125_79, q_125_e, va_rf_s, bz_0, bz_1, bz_ok, bb_ok, Nat.add_assoc, w_lt, w_add, w_sub, w_mul, w_div, em_def, w_eq, w_inT, ↓ilt_t, ↓ilt_f, ↓ieq_t, ↓ieq_f, ntT, w_b, w_ix, kx_v, kx_n, kl_n, kl_i, kl_r, kl_o, inA_i, inA_s, inA_b, inA_z, inA_l, inA_0, inA_4, inA_5, inA_6, inA_7, inA_8, inA_9, inA_10, al_0, al_1, al_2, al_4, al_5, al_98, bsP_2, bsP_3, wr_same, wr_wr, wr_ne, up_same, up_ne, Nat.reduceAdd, Int.reduceAdd, Int.reduceSub, Int.reduceMul, Int.reduceLT, Int.reduceLE, Int.reduceEq, Int.reduceNeg, Int.reduceToNat, Nat.reduceLT, Nat.reduceLeDiff, Nat.reduceEqDiff, ↓reduceIte, true_and, and_true, not_true_eq_false, not_false_eq_true, eq_self, or_true, true_or, or_false, false_or, if_true, if_false, Int.toNat_natCast, w_ite, Nat.add_zero, reduceCtorEq, ne_eq, hc, p143, s146, p141, hk5, hB, b1]
      refine h.prep cl g (fun I1 hr1 hf1 hM1 hO1 => ?_)
      have h1 := hr1.cr h
      have g1 := h1.lgk cl g
      simp (disch := omega) only [q_125_0, q_125_1, q_125_2, q_125_5, q_125_6, q_125_7, q_125_8, q_125_9, q_125_12, q_125_13, q_125_14, q_125_17, q_125_18, q_125_21, q_125_24, q_125_27, q_125_28, q_125_29, q_125_32, q_125_33, q_125_60, q_125_61, q_125_64, q_125_65, q_125_66, q_125_69, q_125_70, q_125_71, q_125_74, q_125_75, q_125_76, q_125_79, q_125_e, va_rf_s, bz_0, bz_1, bz_ok, bb_ok, Nat.add_assoc, w_lt, w_add, w_sub, w_mul, w_div, em_def, w_eq, w_inT, ↓ilt_t, ↓ilt_f, ↓ieq_t, ↓ieq_f, ntT, w_b, w_ix, kx_v, kx_n, kl_n, kl_i, kl_r, kl_o, inA_i, inA_s, inA_b, inA_z, inA_l, inA_0, inA_4, inA_5, inA_6, inA_7, inA_8, inA_9, inA_10, al_0, al_1, al_2, al_4, al_5, al_98, bsP_2, bsP_3, wr_same, wr_wr, wr_ne, up_same, up_ne, Nat.reduceAdd, Int.reduceAdd, Int.reduceSub, Int.reduceMul, Int.reduceLT, Int.reduceLE, Int.reduceEq, Int.reduceNeg, Int.reduceToNat, Nat.reduceLT, Nat.reduceLeDiff, Nat.reduceEqDiff, ↓reduceIte, true_and, and_true, not_true_eq_false, not_false_eq_true, eq_self, or_true, true_or, or_false, false_or, if_true, if_false, Int.toNat_natCast, w_ite, Nat.add_zero, reduceCtorEq, ne_eq, hk5]
      refine sp_52 g.hK b3 hM1 g.ok hO1 (fun I2 f2 e2 hA => ?_)
      have hr2 := h1.rk1 cl g1 f2 (fun j hj => e2 j (by omega))
      have hQ' := CK.ask h (hr1.trans hr2) hQ
      dsimp only at hQ'
      unfold vAlike at hQ'
      obtain ⟨a1, a2, a3, a4⟩ := hA
      have hK0 := g.hK.1
      simp (disch := omega) only [q_125_0, q_125_1, q_125_2, q_125_5, q_125_6, q_125_7, q_125_8, q_125_9, q_125_12, q_125_13, q_125_14, q_125_17, q_125_18, q_125_21, q_125_24, q_125_27, q_125_28, q_125_29, q_125_32, q_125_33, q_125_60, q_125_61, q_125_64, q_125_65, q_125_66, q_125_69, q_125_70, q_125_71, q_125_74, q_125_75, q_125_76, q_125_79, q_125_e, va_rf_s, bz_0, bz_1, bz_ok, bb_ok, Nat.add_assoc, w_lt, w_add, w_sub, w_mul, w_div, em_def, w_eq, w_inT, ↓ilt_t, ↓ilt_f, ↓ieq_t, ↓ieq_f, ntT, w_b, w_ix, kx_v, kx_n, kl_n, kl_i, kl_r, kl_o, inA_i, inA_s, inA_b, inA_z, inA_l, inA_0, inA_4, inA_5, inA_6, inA_7, inA_8, inA_9, inA_10, al_0, al_1, al_2, al_4, al_5, al_98, bsP_2, bsP_3, wr_same, wr_wr, wr_ne, up_same, up_ne, Nat.reduceAdd, Int.reduceAdd, Int.reduceSub, Int.reduceMul, Int.reduceLT, Int.reduceLE, Int.reduceEq, Int.reduceNeg, Int.reduceToNat, Nat.reduceLT, Nat.reduceLeDiff, Nat.reduceEqDiff, ↓reduceIte, true_and, and_true, not_true_eq_false, not_false_eq_true, eq_self, or_true, true_or, or_false, false_or, if_true, if_false, Int.toNat_natCast, w_ite, Nat.add_zero, reduceCtorEq, ne_eq, w_toInt]
      have hcs : x = 0 ∨ x = 1 ∨ x = 2 ∨ x = 3 := by omega
      rcases hcs with e | e | e | e
      · subst e
        rw [show swT [60, 65, 70] 75 0 0 = 60 from rfl]
        simp (disch := omega) only [q_125_0, q_125_1, q_125_2, q_125_5, q_125_6, q_125_7, q_125_8, q_125_9, q_125_12, q_125_13, q_125_14, q_125_17, q_125_18, q_125_21, q_125_24, q_125_27, q_125_28, q_125_29, q_125_32, q_125_33, q_125_60, q_125_61, q_125_64, q_125_65, q_125_66, q_125_69, q_125_70, q_125_71, q_125_74, q_125_75, q_125_76, q_125_79, q_125_e, va_rf_s, bz_0, bz_1, bz_ok, bb_ok, Nat.add_assoc, w_lt, w_add, w_sub, w_mul, w_div, em_def, w_eq, w_inT, ↓ilt_t, ↓ilt_f, ↓ieq_t, ↓ieq_f, ntT, w_b, w_ix, kx_v, kx_n, kl_n, kl_i, kl_r, kl_o, inA_i, inA_s, inA_b, inA_z, inA_l, inA_0, inA_4, inA_5, inA_6, inA_7, inA_8, inA_9, inA_10, al_0, al_1, al_2, al_4, al_5, al_98, bsP_2, bsP_3, wr_same, wr_wr, wr_ne, up_same, up_ne, Nat.reduceAdd, Int.reduceAdd, Int.reduceSub, Int.reduceMul, Int.reduceLT, Int.reduceLE, Int.reduceEq, Int.reduceNeg, Int.reduceToNat, Nat.reduceLT, Nat.reduceLeDiff, Nat.reduceEqDiff, ↓reduceIte, true_and, and_true, not_true_eq_false, not_false_eq_true, eq_self, or_true, true_or, or_false, false_or, if_true, if_false, Int.toNat_natCast, w_ite, Nat.add_zero, reduceCtorEq, ne_eq, hK0, a1]
        exact hQ'
      · subst e
        rw [show swT [60, 65, 70] 75 0 1 = 65 from rfl]
        simp (disch := omega) only [q_125_0, q_125_1, q_125_2, q_125_5, q_125_6, q_125_7, q_125_8, q_125_9, q_125_12, q_125_13, q_125_14, q_125_17, q_125_18, q_125_21, q_125_24, q_125_27, q_125_28, q_125_29, q_125_32, q_125_33, q_125_60, q_125_61, q_125_64, q_125_65, q_125_66, q_125_69, q_125_70, q_125_71, q_125_74, q_125_75, q_125_76, q_125_79, q_125_e, va_rf_s, bz_0, bz_1, bz_ok, bb_ok, Nat.add_assoc, w_lt, w_add, w_sub, w_mul, w_div, em_def, w_eq, w_inT, ↓ilt_t, ↓ilt_f, ↓ieq_t, ↓ieq_f, ntT, w_b, w_ix, kx_v, kx_n, kl_n, kl_i, kl_r, kl_o, inA_i, inA_s, inA_b, inA_z, inA_l, inA_0, inA_4, inA_5, inA_6, inA_7, inA_8, inA_9, inA_10, al_0, al_1, al_2, al_4, al_5, al_98, bsP_2, bsP_3, wr_same, wr_wr, wr_ne, up_same, up_ne, Nat.reduceAdd, Int.reduceAdd, Int.reduceSub, Int.reduceMul, Int.reduceLT, Int.reduceLE, Int.reduceEq, Int.reduceNeg, Int.reduceToNat, Nat.reduceLT, Nat.reduceLeDiff, Nat.reduceEqDiff, ↓reduceIte, true_and, and_true, not_true_eq_false, not_false_eq_true, eq_self, or_true, true_or, or_false, false_or, if_true, if_false, Int.toNat_natCast, w_ite, Nat.add_zero, reduceCtorEq, ne_eq, hK0, a2]
        exact hQ'
      · subst e
        rw [show swT [60, 65, 70] 75 0 2 = 70 from rfl]
        simp (disch := omega) only [q_125_0, q_125_1, q_125_2, q_125_5, q_125_6, q_125_7, q_125_8, q_125_9, q_125_12, q_125_13, q_125_14, q_125_17, q_125_18, q_125_21, q_125_24, q_125_27, q_125_28, q_125_29, q_125_32, q_125_33, q_125_60, q_125_61, q_125_64, q_125_65, q_125_66, q_125_69, q_125_70, q_125_71, q_125_74, q_125_75, q_125_76, q_125_79, q_125_e, va_rf_s, bz_0, bz_1, bz_ok, bb_ok, Nat.add_assoc, w_lt, w_add, w_sub, w_mul, w_div, em_def, w_eq, w_inT, ↓ilt_t, ↓ilt_f, ↓ieq_t, ↓ieq_f, ntT, w_b, w_ix, kx_v, kx_n, kl_n, kl_i, kl_r, kl_o, inA_i, inA_s, inA_b, inA_z, inA_l, inA_0, inA_4, inA_5, inA_6, inA_7, inA_8, inA_9, inA_10, al_0, al_1, al_2, al_4, al_5, al_98, bsP_2, bsP_3, wr_same, wr_wr, wr_ne, up_same, up_ne, Nat.reduceAdd, Int.reduceAdd, Int.reduceSub, Int.reduceMul, Int.reduceLT, Int.reduceLE, Int.reduceEq, Int.reduceNeg, Int.reduceToNat, Nat.reduceLT, Nat.reduceLeDiff, Nat.reduceEqDiff, ↓reduceIte, true_and, and_true, not_true_eq_false, not_false_eq_true, eq_self, or_true, true_or, or_false, false_or, if_true, if_false, Int.toNat_natCast, w_ite, Nat.add_zero, reduceCtorEq, ne_eq, hK0, a3]
        exact hQ'
      · subst e
        rw [show swT [60, 65, 70] 75 0 3 = 75 from rfl]
        simp (disch := omega) only [q_125_0, q_125_1, q_125_2, q_125_5, q_125_6, q_125_7, q_125_8, q_125_9, q_125_12, q_125_13, q_125_14, q_125_17, q_125_18, q_125_21, q_125_24, q_125_27, q_125_28, q_125_29, q_125_32, q_125_33, q_125_60, q_125_61, q_125_64, q_125_65, q_125_66, q_125_69, q_125_70, q_125_71, q_125_74, q_125_75, q_125_76, q_125_79, q_125_e, va_rf_s, bz_0, bz_1, bz_ok, bb_ok, Nat.add_assoc, w_lt, w_add, w_sub, w_mul, w_div, em_def, w_eq, w_inT, ↓ilt_t, ↓ilt_f, ↓ieq_t, ↓ieq_f, ntT, w_b, w_ix, kx_v, kx_n, kl_n, kl_i, kl_r, kl_o, inA_i, inA_s, inA_b, inA_z, inA_l, inA_0, inA_4, inA_5, inA_6, inA_7, inA_8, inA_9, inA_10, al_0, al_1, al_2, al_4, al_5, al_98, bsP_2, bsP_3, wr_same, wr_wr, wr_ne, up_same, up_ne, Nat.reduceAdd, Int.reduceAdd, Int.reduceSub, Int.reduceMul, Int.reduceLT, Int.reduceLE, Int.reduceEq, Int.reduceNeg, Int.reduceToNat, Nat.reduceLT, Nat.reduceLeDiff, Nat.reduceEqDiff, ↓reduceIte, true_and, and_true, not_true_eq_false, not_false_eq_true, eq_self, or_true, true_or, or_false, false_or, if_true, if_false, Int.toNat_natCast, w_ite, Nat.add_zero, reduceCtorEq, ne_eq, hK0, a4]
        exact hQ'
    · rw [if_neg cx] at hQ
      have s146 := fun {d : Nat} {Q : XO → Hp → Prop} => h.noI (d := d) (Q := Q) hx (y := 0) (z := 3) (by decide) (by decide) cx
      simp (disch := omega) only [q_125_0, q_125_1, q_125_2, q_125_5, q_125_6, q_125_7, q_125_8, q_125_9, q_125_12, q_125_13, q_125_14, q_125_17, q_125_18, q_125_21, q_125_24, q_125_27, q_125_28, q_125_29, q_125_32, q_125_33, q_125_60, q_125_61, q_125_64, q_125_65, q_125_66, q_125_69, q_125_70, q_125_71, q_125_74, q_125_75, q_125_76, q_125_79, q_125_e, va_rf_s, bz_0, bz_1, bz_ok, bb_ok, Nat.add_assoc, w_lt, w_add, w_sub, w_mul, w_div, em_def, w_eq, w_inT, ↓ilt_t, ↓ilt_f, ↓ieq_t, ↓ieq_f, ntT, w_b, w_ix, kx_v, kx_n, kl_n, kl_i, kl_r, kl_o, inA_i, inA_s, inA_b, inA_z, inA_l, inA_0, inA_4, inA_5, inA_6, inA_7, inA_8, inA_9, inA_10, al_0, al_1, al_2, al_4, al_5, al_98, bsP_2, bsP_3, wr_same, wr_wr, wr_ne, up_same, up_ne, Nat.reduceAdd, Int.reduceAdd, Int.reduceSub, Int.reduceMul, Int.reduceLT, Int.reduceLE, Int.reduceEq, Int.reduceNeg, Int.reduceToNat, Nat.reduceLT, Nat.reduceLeDiff, Nat.reduceEqDiff, ↓reduceIte, true_and, and_true, not_true_eq_false, not_false_eq_true, eq_self, or_true, true_or, or_false, false_or, if_true, if_false, Int.toNat_natCast, w_ite, Nat.add_zero, reduceCtorEq, ne_eq, hc, p143, s146, kx_t hk]
      exact CK.wro h (Rem.refl h) hf.2 hQ
  · rw [if_neg cl] at hQ
    have s143 := fun {d : Nat} {Q : XO → Hp → Prop} => h.noL (d := d) (Q := Q) hl cl
    simp (disch := omega) only [q_125_0, q_125_1, q_125_2, q_125_5, q_125_6, q_125_7, q_125_8, q_125_9, q_125_12, q_125_13, q_125_14, q_125_17, q_125_18, q_125_21, q_125_24, q_125_27, q_125_28, q_125_29, q_125_32, q_125_33, q_125_60, q_125_61, q_125_64, q_125_65, q_125_66, q_125_69, q_125_70, q_125_71, q_125_74, q_125_75, q_125_76, q_125_79, q_125_e, va_rf_s, bz_0, bz_1, bz_ok, bb_ok, Nat.add_assoc, w_lt, w_add, w_sub, w_mul, w_div, em_def, w_eq, w_inT, ↓ilt_t, ↓ilt_f, ↓ieq_t, ↓ieq_f, ntT, w_b, w_ix, kx_v, kx_n, kl_n, kl_i, kl_r, kl_o, inA_i, inA_s, inA_b, inA_z, inA_l, inA_0, inA_4, inA_5, inA_6, inA_7, inA_8, inA_9, inA_10, al_0, al_1, al_2, al_4, al_5, al_98, bsP_2, bsP_3, wr_same, wr_wr, wr_ne, up_same, up_ne, Nat.reduceAdd, Int.reduceAdd, Int.reduceSub, Int.reduceMul, Int.reduceLT, Int.reduceLE, Int.reduceEq, Int.reduceNeg, Int.reduceToNat, Nat.reduceLT, Nat.reduceLeDiff, Nat.reduceEqDiff, ↓reduceIte, true_and, and_true, not_true_eq_false, not_false_eq_true, eq_self, or_true, true_or, or_false, false_or, if_true, if_false, Int.toNat_natCast, w_ite, Nat.add_zero, reduceCtorEq, ne_eq, hc, s143, kx_t hk]
    exact CK.mis h (Rem.refl h) hf.1 hQ
theorem sp_126 {l n x : Int} (h : CR S I L R G c lo s) (hf : few s) (hl : B32 l) (hn : B32 n) (hx : B32 x) (hQ : CK S I L R G c lo Q (outX (rRead s l n x).1) (rRead s l n x).2) : XC (d + 70) 126 [.ref c, .int (w l), .int (w n), .int (w x)] (mk S I L R G) Q := by
  have hc := h.1.1
  have hk : t_han 126 = [] := rfl
  have hTp := h.1.2.1
  obtain ⟨⟨ht1, ht2⟩, ht3, ht4⟩ := h.2.2.2.1
  unfold rRead at hQ
  by_cases cl : inL l
  · rw [if_pos cl] at hQ
    obtain ⟨k, g⟩ := h.lg cl
    have p141 := @g.p141
    have hk5 := g.hK.1
    have p143 := @g.p143
    by_cases cn : 0 ≤ n ∧ n ≤ s.1.length
    · have s146 := fun {d : Nat} {Q : XO → Hp → Prop} => h.in (d := d) (Q := Q) hn (y := 0) (z := s.1.length) (by decide) (by constructor <;> omega) cn
      by_cases cx : 0 ≤ x ∧ x ≤ 2
      · rw [if_pos ⟨cn, cx⟩] at hQ
        have s146' := fun {d : Nat} {Q : XO → Hp → Prop} => h.in (d := d) (Q := Q) hx (y := 0) (z := 2) (by decide) (by decide) cx
        have hB := h.1.2.2.1.1
        obtain ⟨b1, b2, b3, b4⟩ := h.bk
        have gb := g.b1
        have hT0 := hTp.1
        simp (disch := omega) only [q_126_0, q_126_1, q_126_2, q_126_5, q_126_6, q_126_7, q_126_8, q_126_9, q_126_12, q_126_15, q_126_18, q_126_19, q_126_20, q_126_21, q_126_22, q_126_25, q_126_26, q_126_27, q_126_30, q_126_31, q_126_34, q_126_37, q_126_40, q_126_42, q_126_44, q_126_45, q_126_48, q_126_51, q_126_52, q_126_53, q_126_56, q_126_58, q_126_59, q_126_84, q_126_86, q_126_87, q_126_89, q_126_92, q_126_93, q_126_95, q_126_98, q_126_e, va_rf_s, bz_0, bz_1, bz_ok, bb_ok, Nat.add_assoc, w_lt, w_add, w_sub, w_mul, w_div, em_def, w_eq, w_inT, ↓ilt_t, ↓ilt_f, ↓ieq_t, ↓ieq_f, ntT, w_b, w_ix, kx_v, kx_n, kl_n, kl_i, kl_r, kl_o, inA_i, inA_s, inA_b, inA_z, inA_l, inA_0, inA_4, inA_5, inA_6, inA_7, inA_8, inA_9, inA_10, al_0, al_1, al_2, al_4, al_5, al_98, bsP_2, bsP_3, wr_same, wr_wr, wr_ne, up_same, up_ne, Nat.reduceAdd, Int.reduceAdd, Int.reduceSub, Int.reduceMul, Int.reduceLT, Int.reduceLE, Int.reduceEq, Int.reduceNeg, Int.reduceToNat, Nat.reduceLT, Nat.reduceLeDiff, Nat.reduceEqDiff, ↓reduceIte, true_and, and_true, not_true_eq_false, not_false_eq_true, eq_self, or_true, true_or, or_false, false_or, if_true, if_false, Int.toNat_natCast, w_ite, Nat.add_zero, reduceCtorEq, ne_eq, hc, p143, hT0, ht1, s146, s146', p141, hk5, hB, b1]
        refine h.prep cl g (fun I1 hr1 hf1 hM1 hO1 => ?_)
        have h1 := hr1.cr h
        have g1 := h1.lgk cl g
        have hlen : ((s.1.take n.toNat).map sb).length = n.toNat := by rw [List.length_map, List.length_take]; omega
        have htx : Txt (I1 (c + 2)) 0 ((s.1.take n.toNat).map sb) := by
          rw [hf1 _ (by omega)]
          intro i hi
          rw [ht2 i (by rw [List.length_map]; omega)]
          rw [hlen] at hi
          simp only [List.getD_eq_getElem?_getD, List.getElem?_map, List.getElem?_take]
          rw [if_pos hi]
        have htb : ∀ b ∈ (s.1.take n.toNat).map sb, -128 ≤ b ∧ b < 128 := fun b hb => by
          obtain ⟨y, hy, rfl⟩ := List.mem_map.mp hb
          have := ht4 y (List.mem_of_mem_take hy)
          exact sb_bd this.1 this.2
        simp (disch := omega) only [q_126_0, q_126_1, q_126_2, q_126_5, q_126_6, q_126_7, q_126_8, q_126_9, q_126_12, q_126_15, q_126_18, q_126_19, q_126_20, q_126_21, q_126_22, q_126_25, q_126_26, q_126_27, q_126_30, q_126_31, q_126_34, q_126_37, q_126_40, q_126_42, q_126_44, q_126_45, q_126_48, q_126_51, q_126_52, q_126_53, q_126_56, q_126_58, q_126_59, q_126_84, q_126_86, q_126_87, q_126_89, q_126_92, q_126_93, q_126_95, q_126_98, q_126_e, va_rf_s, bz_0, bz_1, bz_ok, bb_ok, Nat.add_assoc, w_lt, w_add, w_sub, w_mul, w_div, em_def, w_eq, w_inT, ↓ilt_t, ↓ilt_f, ↓ieq_t, ↓ieq_f, ntT, w_b, w_ix, kx_v, kx_n, kl_n, kl_i, kl_r, kl_o, inA_i, inA_s, inA_b, inA_z, inA_l, inA_0, inA_4, inA_5, inA_6, inA_7, inA_8, inA_9, inA_10, al_0, al_1, al_2, al_4, al_5, al_98, bsP_2, bsP_3, wr_same, wr_wr, wr_ne, up_same, up_ne, Nat.reduceAdd, Int.reduceAdd, Int.reduceSub, Int.reduceMul, Int.reduceLT, Int.reduceLE, Int.reduceEq, Int.reduceNeg, Int.reduceToNat, Nat.reduceLT, Nat.reduceLeDiff, Nat.reduceEqDiff, ↓reduceIte, true_and, and_true, not_true_eq_false, not_false_eq_true, eq_self, or_true, true_or, or_false, false_or, if_true, if_false, Int.toNat_natCast, w_ite, Nat.add_zero, reduceCtorEq, ne_eq, hc, hT0, hk5]
        have en : n = (((s.1.take n.toNat).map sb).length : Int) := by rw [hlen]; omega
        have s48 := fun {d : Nat} {Q : XO → Hp → Prop} => sp_48 (d := d) (Q := Q) (S := S) (L := L) (R := R) (G := G) (q := 0) g.hK b3 hM1 g.ok hO1 hTp.2 (by decide) (by omega) htx (by omega) htb (by omega)
        rw [← en] at s48
        refine s48 (fun I2 f2 e2 hF => ?_)
        have hr2 := h1.rk1 cl g1 f2 (fun j hj => e2 j (by omega) (by omega))
        have hQ' := CK.ask h (hr1.trans hr2) hQ
        dsimp only at hQ'
        unfold vRead at hQ'
        have hO2 : Ready (rlz s l) I2 k s.2.1.1 := hO1.keep b3 (e2 3 (by decide) (by decide)) (f2 _ (by omega)) (vq.same hM1 g1.hU (fun a h1 h2 => f2 a (by omega)))
        have s49 := fun {d : Nat} {Q : XO → Hp → Prop} => sp_49 (d := d) (Q := Q) (L := L) (R := R) (G := G) g.hK b3 g.ok hO2 hF htb
        have s50 := fun {d : Nat} {Q : XO → Hp → Prop} => sp_50 (d := d) (Q := Q) (L := L) (R := R) (G := G) g.hK b3 g.ok hO2 hF htb
        simp (disch := omega) only [q_126_0, q_126_1, q_126_2, q_126_5, q_126_6, q_126_7, q_126_8, q_126_9, q_126_12, q_126_15, q_126_18, q_126_19, q_126_20, q_126_21, q_126_22, q_126_25, q_126_26, q_126_27, q_126_30, q_126_31, q_126_34, q_126_37, q_126_40, q_126_42, q_126_44, q_126_45, q_126_48, q_126_51, q_126_52, q_126_53, q_126_56, q_126_58, q_126_59, q_126_84, q_126_86, q_126_87, q_126_89, q_126_92, q_126_93, q_126_95, q_126_98, q_126_e, va_rf_s, bz_0, bz_1, bz_ok, bb_ok, Nat.add_assoc, w_lt, w_add, w_sub, w_mul, w_div, em_def, w_eq, w_inT, ↓ilt_t, ↓ilt_f, ↓ieq_t, ↓ieq_f, ntT, w_b, w_ix, kx_v, kx_n, kl_n, kl_i, kl_r, kl_o, inA_i, inA_s, inA_b, inA_z, inA_l, inA_0, inA_4, inA_5, inA_6, inA_7, inA_8, inA_9, inA_10, al_0, al_1, al_2, al_4, al_5, al_98, bsP_2, bsP_3, wr_same, wr_wr, wr_ne, up_same, up_ne, Nat.reduceAdd, Int.reduceAdd, Int.reduceSub, Int.reduceMul, Int.reduceLT, Int.reduceLE, Int.reduceEq, Int.reduceNeg, Int.reduceToNat, Nat.reduceLT, Nat.reduceLeDiff, Nat.reduceEqDiff, ↓reduceIte, true_and, and_true, not_true_eq_false, not_false_eq_true, eq_self, or_true, true_or, or_false, false_or, if_true, if_false, Int.toNat_natCast, w_ite, Nat.add_zero, reduceCtorEq, ne_eq, w_toInt]
        have hcs : x = 0 ∨ x = 1 ∨ x = 2 := by omega
        rcases hcs with e | e | e
        · subst e
          rw [show swL [(0, 84), (1, 87)] 93 0 = 84 from rfl]
          simp (disch := omega) only [q_126_0, q_126_1, q_126_2, q_126_5, q_126_6, q_126_7, q_126_8, q_126_9, q_126_12, q_126_15, q_126_18, q_126_19, q_126_20, q_126_21, q_126_22, q_126_25, q_126_26, q_126_27, q_126_30, q_126_31, q_126_34, q_126_37, q_126_40, q_126_42, q_126_44, q_126_45, q_126_48, q_126_51, q_126_52, q_126_53, q_126_56, q_126_58, q_126_59, q_126_84, q_126_86, q_126_87, q_126_89, q_126_92, q_126_93, q_126_95, q_126_98, q_126_e, va_rf_s, bz_0, bz_1, bz_ok, bb_ok, Nat.add_assoc, w_lt, w_add, w_sub, w_mul, w_div, em_def, w_eq, w_inT, ↓ilt_t, ↓ilt_f, ↓ieq_t, ↓ieq_f, ntT, w_b, w_ix, kx_v, kx_n, kl_n, kl_i, kl_r, kl_o, inA_i, inA_s, inA_b, inA_z, inA_l, inA_0, inA_4, inA_5, inA_6, inA_7, inA_8, inA_9, inA_10, al_0, al_1, al_2, al_4, al_5, al_98, bsP_2, bsP_3, wr_same, wr_wr, wr_ne, up_same, up_ne, Nat.reduceAdd, Int.reduceAdd, Int.reduceSub, Int.reduceMul, Int.reduceLT, Int.reduceLE, Int.reduceEq, Int.reduceNeg, Int.reduceToNat, Nat.reduceLT, Nat.reduceLeDiff, Nat.reduceEqDiff, ↓reduceIte, true_and, and_true, not_true_eq_false, not_false_eq_true, eq_self, or_true, true_or, or_false, false_or, if_true, if_false, Int.toNat_natCast, w_ite, Nat.add_zero, reduceCtorEq, ne_eq]
          exact hQ'
        · subst e
          rw [show swL [(0, 84), (1, 87)] 93 1 = 87 from rfl]
          simp (disch := omega) only [q_126_0, q_126_1, q_126_2, q_126_5, q_126_6, q_126_7, q_126_8, q_126_9, q_126_12, q_126_15, q_126_18, q_126_19, q_126_20, q_126_21, q_126_22, q_126_25, q_126_26, q_126_27, q_126_30, q_126_31, q_126_34, q_126_37, q_126_40, q_126_42, q_126_44, q_126_45, q_126_48, q_126_51, q_126_52, q_126_53, q_126_56, q_126_58, q_126_59, q_126_84, q_126_86, q_126_87, q_126_89, q_126_92, q_126_93, q_126_95, q_126_98, q_126_e, va_rf_s, bz_0, bz_1, bz_ok, bb_ok, Nat.add_assoc, w_lt, w_add, w_sub, w_mul, w_div, em_def, w_eq, w_inT, ↓ilt_t, ↓ilt_f, ↓ieq_t, ↓ieq_f, ntT, w_b, w_ix, kx_v, kx_n, kl_n, kl_i, kl_r, kl_o, inA_i, inA_s, inA_b, inA_z, inA_l, inA_0, inA_4, inA_5, inA_6, inA_7, inA_8, inA_9, inA_10, al_0, al_1, al_2, al_4, al_5, al_98, bsP_2, bsP_3, wr_same, wr_wr, wr_ne, up_same, up_ne, Nat.reduceAdd, Int.reduceAdd, Int.reduceSub, Int.reduceMul, Int.reduceLT, Int.reduceLE, Int.reduceEq, Int.reduceNeg, Int.reduceToNat, Nat.reduceLT, Nat.reduceLeDiff, Nat.reduceEqDiff, ↓reduceIte, true_and, and_true, not_true_eq_false, not_false_eq_true, eq_self, or_true, true_or, or_false, false_or, if_true, if_false, Int.toNat_natCast, w_ite, Nat.add_zero, reduceCtorEq, ne_eq, s49, hk5]
          exact hQ'
        · subst e
          rw [show swL [(0, 84), (1, 87)] 93 2 = 93 from rfl]
          simp (disch := omega) only [q_126_0, q_126_1, q_126_2, q_126_5, q_126_6, q_126_7, q_126_8, q_126_9, q_126_12, q_126_15, q_126_18, q_126_19, q_126_20, q_126_21, q_126_22, q_126_25, q_126_26, q_126_27, q_126_30, q_126_31, q_126_34, q_126_37, q_126_40, q_126_42, q_126_44, q_126_45, q_126_48, q_126_51, q_126_52, q_126_53, q_126_56, q_126_58, q_126_59, q_126_84, q_126_86, q_126_87, q_126_89, q_126_92, q_126_93, q_126_95, q_126_98, q_126_e, va_rf_s, bz_0, bz_1, bz_ok, bb_ok, Nat.add_assoc, w_lt, w_add, w_sub, w_mul, w_div, em_def, w_eq, w_inT, ↓ilt_t, ↓ilt_f, ↓ieq_t, ↓ieq_f, ntT, w_b, w_ix, kx_v, kx_n, kl_n, kl_i, kl_r, kl_o, inA_i, inA_s, inA_b, inA_z, inA_l, inA_0, inA_4, inA_5, inA_6, inA_7, inA_8, inA_9, inA_10, al_0, al_1, al_2, al_4, al_5, al_98, bsP_2, bsP_3, wr_same, wr_wr, wr_ne, up_same, up_ne, Nat.reduceAdd, Int.reduceAdd, Int.reduceSub, Int.reduceMul, Int.reduceLT, Int.reduceLE, Int.reduceEq, Int.reduceNeg, Int.reduceToNat, Nat.reduceLT, Nat.reduceLeDiff, Nat.reduceEqDiff, ↓reduceIte, true_and, and_true, not_true_eq_false, not_false_eq_true, eq_self, or_true, true_or, or_false, false_or, if_true, if_false, Int.toNat_natCast, w_ite, Nat.add_zero, reduceCtorEq, ne_eq, s50, hk5]
          exact hQ'
      · rw [if_neg (fun h => cx h.2)] at hQ
        have s146' := fun {d : Nat} {Q : XO → Hp → Prop} => h.noI (d := d) (Q := Q) hx (y := 0) (z := 2) (by decide) (by decide) cx
        have hT0 := hTp.1
        simp (disch := omega) only [q_126_0, q_126_1, q_126_2, q_126_5, q_126_6, q_126_7, q_126_8, q_126_9, q_126_12, q_126_15, q_126_18, q_126_19, q_126_20, q_126_21, q_126_22, q_126_25, q_126_26, q_126_27, q_126_30, q_126_31, q_126_34, q_126_37, q_126_40, q_126_42, q_126_44, q_126_45, q_126_48, q_126_51, q_126_52, q_126_53, q_126_56, q_126_58, q_126_59, q_126_84, q_126_86, q_126_87, q_126_89, q_126_92, q_126_93, q_126_95, q_126_98, q_126_e, va_rf_s, bz_0, bz_1, bz_ok, bb_ok, Nat.add_assoc, w_lt, w_add, w_sub, w_mul, w_div, em_def, w_eq, w_inT, ↓ilt_t, ↓ilt_f, ↓ieq_t, ↓ieq_f, ntT, w_b, w_ix, kx_v, kx_n, kl_n, kl_i, kl_r, kl_o, inA_i, inA_s, inA_b, inA_z, inA_l, inA_0, inA_4, inA_5, inA_6, inA_7, inA_8, inA_9, inA_10, al_0, al_1, al_2, al_4, al_5, al_98, bsP_2, bsP_3, wr_same, wr_wr, wr_ne, up_same, up_ne, Nat.reduceAdd, Int.reduceAdd, Int.reduceSub, Int.reduceMul, Int.reduceLT, Int.reduceLE, Int.reduceEq, Int.reduceNeg, Int.reduceToNat, Nat.reduceLT, Nat.reduceLeDiff, Nat.reduceEqDiff, ↓reduceIte, true_and, and_true, not_true_eq_false, not_false_eq_true, eq_self, or_true, true_or, or_false, false_or, if_true, if_false, Int.toNat_natCast, w_ite, Nat.add_zero, reduceCtorEq, ne_eq, hc, p143, hT0, ht1, s146, s146', kx_t hk]
        exact CK.wro h (Rem.refl h) hf.2 hQ
    · rw [if_neg (fun h => cn h.1)] at hQ
      have s146 := fun {d : Nat} {Q : XO → Hp → Prop} => h.noI (d := d) (Q := Q) hn (y := 0) (z := s.1.length) (by decide) (by constructor <;> omega) cn
      have hT0 := hTp.1
      simp (disch := omega) only [q_126_0, q_126_1, q_126_2, q_126_5, q_126_6, q_126_7, q_126_8, q_126_9, q_126_12, q_126_15, q_126_18, q_126_19, q_126_20, q_126_21, q_126_22, q_126_25, q_126_26, q_126_27, q_126_30, q_126_31, q_126_34, q_126_37, q_126_40, q_126_42, q_126_44, q_126_45, q_126_48, q_126_51, q_126_52, q_126_53, q_126_56, q_126_58, q_126_59, q_126_84, q_126_86, q_126_87, q_126_89, q_126_92, q_126_93, q_126_95, q_126_98, q_126_e, va_rf_s, bz_0, bz_1, bz_ok, bb_ok, Nat.add_assoc, w_lt, w_add, w_sub, w_mul, w_div, em_def, w_eq, w_inT, ↓ilt_t, ↓ilt_f, ↓ieq_t, ↓ieq_f, ntT, w_b, w_ix, kx_v, kx_n, kl_n, kl_i, kl_r, kl_o, inA_i, inA_s, inA_b, inA_z, inA_l, inA_0, inA_4, inA_5, inA_6, inA_7, inA_8, inA_9, inA_10, al_0, al_1, al_2, al_4, al_5, al_98, bsP_2, bsP_3, wr_same, wr_wr, wr_ne, up_same, up_ne, Nat.reduceAdd, Int.reduceAdd, Int.reduceSub, Int.reduceMul, Int.reduceLT, Int.reduceLE, Int.reduceEq, Int.reduceNeg, Int.reduceToNat, Nat.reduceLT, Nat.reduceLeDiff, Nat.reduceEqDiff, ↓reduceIte, true_and, and_true, not_true_eq_false, not_false_eq_true, eq_self, or_true, true_or, or_false, false_or, if_true, if_false, Int.toNat_natCast, w_ite, Nat.add_zero, reduceCtorEq, ne_eq, hc, p143, hT0, ht1, s146, kx_t hk]
      exact CK.wro h (Rem.refl h) hf.2 hQ
  · rw [if_neg cl] at hQ
    have s143 := fun {d : Nat} {Q : XO → Hp → Prop} => h.noL (d := d) (Q := Q) hl cl
    simp (disch := omega) only [q_126_0, q_126_1, q_126_2, q_126_5, q_126_6, q_126_7, q_126_8, q_126_9, q_126_12, q_126_15, q_126_18, q_126_19, q_126_20, q_126_21, q_126_22, q_126_25, q_126_26, q_126_27, q_126_30, q_126_31, q_126_34, q_126_37, q_126_40, q_126_42, q_126_44, q_126_45, q_126_48, q_126_51, q_126_52, q_126_53, q_126_56, q_126_58, q_126_59, q_126_84, q_126_86, q_126_87, q_126_89, q_126_92, q_126_93, q_126_95, q_126_98, q_126_e, va_rf_s, bz_0, bz_1, bz_ok, bb_ok, Nat.add_assoc, w_lt, w_add, w_sub, w_mul, w_div, em_def, w_eq, w_inT, ↓ilt_t, ↓ilt_f, ↓ieq_t, ↓ieq_f, ntT, w_b, w_ix, kx_v, kx_n, kl_n, kl_i, kl_r, kl_o, inA_i, inA_s, inA_b, inA_z, inA_l, inA_0, inA_4, inA_5, inA_6, inA_7, inA_8, inA_9, inA_10, al_0, al_1, al_2, al_4, al_5, al_98, bsP_2, bsP_3, wr_same, wr_wr, wr_ne, up_same, up_ne, Nat.reduceAdd, Int.reduceAdd, Int.reduceSub, Int.reduceMul, Int.reduceLT, Int.reduceLE, Int.reduceEq, Int.reduceNeg, Int.reduceToNat, Nat.reduceLT, Nat.reduceLeDiff, Nat.reduceEqDiff, ↓reduceIte, true_and, and_true, not_true_eq_false, not_false_eq_true, eq_self, or_true, true_or, or_false, false_or, if_true, if_false, Int.toNat_natCast, w_ite, Nat.add_zero, reduceCtorEq, ne_eq, hc, s143, kx_t hk]
    exact CK.mis h (Rem.refl h) hf.1 hQ
theorem sp_130 {l n : Int} (h : CR S I L R G c lo s) (hf : few s) (hl : B32 l) (hn : B32 n) (hQ : CK S I L R G c lo Q (outX (rHeard s l n).1) (rHeard s l n).2) : XC (d + 70) 130 [.ref c, .int (w l), .int (w n)] (mk S I L R G) Q := by
  have hc := h.1.1
  have hk : t_han 130 = [] := rfl
  unfold rHeard at hQ
  by_cases cl : inL l
  · rw [if_pos cl] at hQ
    have co : inL (1 - l) := by omega
    obtain ⟨k, g⟩ := h.lg cl
    obtain ⟨o, go⟩ := h.lg co
    have p141 := @g.p141
    have hk5 := g.hK.1
    have p143 := @g.p143
    have p142 := @go.p142
    have ho9 := go.hK.2.1.1
    simp (disch := omega) only [q_130_0, q_130_1, q_130_2, q_130_5, q_130_6, q_130_7, q_130_8, q_130_9, q_130_12, q_130_13, q_130_14, q_130_15, q_130_18, q_130_21, q_130_22, q_130_23, q_130_24, q_130_27, q_130_29, q_130_30, q_130_31, q_130_34, q_130_35, q_130_38, q_130_41, q_130_44, q_130_46, q_130_49, q_130_51, q_130_52, q_130_55, q_130_57, q_130_58, q_130_61, q_130_64, q_130_e, va_rf_s, bz_0, bz_1, bz_ok, bb_ok, Nat.add_assoc, w_lt, w_add, w_sub, w_mul, w_div, em_def, w_eq, w_inT, ↓ilt_t, ↓ilt_f, ↓ieq_t, ↓ieq_f, ntT, w_b, w_ix, kx_v, kx_n, kl_n, kl_i, kl_r, kl_o, inA_i, inA_s, inA_b, inA_z, inA_l, inA_0, inA_4, inA_5, inA_6, inA_7, inA_8, inA_9, inA_10, al_0, al_1, al_2, al_4, al_5, al_98, bsP_2, bsP_3, wr_same, wr_wr, wr_ne, up_same, up_ne, Nat.reduceAdd, Int.reduceAdd, Int.reduceSub, Int.reduceMul, Int.reduceLT, Int.reduceLE, Int.reduceEq, Int.reduceNeg, Int.reduceToNat, Nat.reduceLT, Nat.reduceLeDiff, Nat.reduceEqDiff, ↓reduceIte, true_and, and_true, not_true_eq_false, not_false_eq_true, eq_self, or_true, true_or, or_false, false_or, if_true, if_false, Int.toNat_natCast, w_ite, Nat.add_zero, reduceCtorEq, ne_eq, hc, p143, p142, ho9]
    refine sp_84 go.hK.2.1 go.hR go.hM go.hU hn.1 hn.2 (fun I1 hp hk1 => ?_)
    have hr1 := go.vp I1 hp
    have h1 := hr1.cr h
    cases hs : sd (rlz s (1 - l)) n with
    | none =>
      have hQ' := CK.ask h hr1 hQ
      dsimp only at hQ'
      unfold vHeard at hQ'
      rw [T_sd, hs] at hQ'
      simp (disch := omega) only [q_130_0, q_130_1, q_130_2, q_130_5, q_130_6, q_130_7, q_130_8, q_130_9, q_130_12, q_130_13, q_130_14, q_130_15, q_130_18, q_130_21, q_130_22, q_130_23, q_130_24, q_130_27, q_130_29, q_130_30, q_130_31, q_130_34, q_130_35, q_130_38, q_130_41, q_130_44, q_130_46, q_130_49, q_130_51, q_130_52, q_130_55, q_130_57, q_130_58, q_130_61, q_130_64, q_130_e, va_rf_s, bz_0, bz_1, bz_ok, bb_ok, Nat.add_assoc, w_lt, w_add, w_sub, w_mul, w_div, em_def, w_eq, w_inT, ↓ilt_t, ↓ilt_f, ↓ieq_t, ↓ieq_f, ntT, w_b, w_ix, kx_v, kx_n, kl_n, kl_i, kl_r, kl_o, inA_i, inA_s, inA_b, inA_z, inA_l, inA_0, inA_4, inA_5, inA_6, inA_7, inA_8, inA_9, inA_10, al_0, al_1, al_2, al_4, al_5, al_98, bsP_2, bsP_3, wr_same, wr_wr, wr_ne, up_same, up_ne, Nat.reduceAdd, Int.reduceAdd, Int.reduceSub, Int.reduceMul, Int.reduceLT, Int.reduceLE, Int.reduceEq, Int.reduceNeg, Int.reduceToNat, Nat.reduceLT, Nat.reduceLeDiff, Nat.reduceEqDiff, ↓reduceIte, true_and, and_true, not_true_eq_false, not_false_eq_true, eq_self, or_true, true_or, or_false, false_or, if_true, if_false, Int.toNat_natCast, w_ite, Nat.add_zero, reduceCtorEq, ne_eq, Option.isSome]
      exact hQ'
    | some y =>
      have hT : T (rlz s (1 - l)) n = some y.1 := by rw [T_sd, hs]; rfl
      have n0 := n0_sd hs
      have hsd : Sd I1 (o + 1) n y.1 := (hk1 n0.1 n0.2).Sd hp.2.2.1 go.ok n0.1 hT
      have hv := go.hK.2.1
      have hv0 := hv.1
      have hB := h.1.2.2.1.1
      obtain ⟨b1, b2, b3, b4⟩ := h1.bk
      have g1 := h1.lgk cl g
      have gk := g.hk
      have hmo : S (o + 2) = some (.inr 4) := hv.2.1.1
      have gk := go.hk
      simp (disch := omega) only [q_130_0, q_130_1, q_130_2, q_130_5, q_130_6, q_130_7, q_130_8, q_130_9, q_130_12, q_130_13, q_130_14, q_130_15, q_130_18, q_130_21, q_130_22, q_130_23, q_130_24, q_130_27, q_130_29, q_130_30, q_130_31, q_130_34, q_130_35, q_130_38, q_130_41, q_130_44, q_130_46, q_130_49, q_130_51, q_130_52, q_130_55, q_130_57, q_130_58, q_130_61, q_130_64, q_130_e, va_rf_s, bz_0, bz_1, bz_ok, bb_ok, Nat.add_assoc, w_lt, w_add, w_sub, w_mul, w_div, em_def, w_eq, w_inT, ↓ilt_t, ↓ilt_f, ↓ieq_t, ↓ieq_f, ntT, w_b, w_ix, kx_v, kx_n, kl_n, kl_i, kl_r, kl_o, inA_i, inA_s, inA_b, inA_z, inA_l, inA_0, inA_4, inA_5, inA_6, inA_7, inA_8, inA_9, inA_10, al_0, al_1, al_2, al_4, al_5, al_98, bsP_2, bsP_3, wr_same, wr_wr, wr_ne, up_same, up_ne, Nat.reduceAdd, Int.reduceAdd, Int.reduceSub, Int.reduceMul, Int.reduceLT, Int.reduceLE, Int.reduceEq, Int.reduceNeg, Int.reduceToNat, Nat.reduceLT, Nat.reduceLeDiff, Nat.reduceEqDiff, ↓reduceIte, true_and, and_true, not_true_eq_false, not_false_eq_true, eq_self, or_true, true_or, or_false, false_or, if_true, if_false, Int.toNat_natCast, w_ite, Nat.add_zero, reduceCtorEq, ne_eq, Option.isSome, hc, hv0, hmo, p141, hk5, hB, b1]
      refine h1.prep cl g1 (fun I2 hr2 hf2 hM2 hO2 => ?_)
      have h2 := hr2.cr h1
      have g2 := h2.lgk cl g
      have hsd2 : Sd I2 (o + 1) n y.1 := by
        obtain ⟨a1, a2, a3, a4, a5⟩ := hsd
        refine ⟨Kn_congr (hf2 _ (by omega)) a1, ?_, a3, ?_, a5⟩
        · rw [gi_congr (hf2 _ (by omega))]; exact a2
        · rw [hf2 _ (by omega)]; exact a4
      have s31 := fun {d : Nat} {Q : XO → Hp → Prop} => sp_31 (d := d) (Q := Q) (I := I2) (L := L) (R := R) (G := G) hv.2.1 hn.1 hn.2
      have s32 := fun {d : Nat} {Q : XO → Hp → Prop} => sp_32t (d := d) (Q := Q) (L := L) (R := R) (G := G) hv.2.1 hn.1 hn.2 hsd2
      have hm0 := hv.2.1.1
      simp only [Nat.add_assoc, Nat.reduceAdd] at s31 s32 hm0
      simp (disch := omega) only [q_130_0, q_130_1, q_130_2, q_130_5, q_130_6, q_130_7, q_130_8, q_130_9, q_130_12, q_130_13, q_130_14, q_130_15, q_130_18, q_130_21, q_130_22, q_130_23, q_130_24, q_130_27, q_130_29, q_130_30, q_130_31, q_130_34, q_130_35, q_130_38, q_130_41, q_130_44, q_130_46, q_130_49, q_130_51, q_130_52, q_130_55, q_130_57, q_130_58, q_130_61, q_130_64, q_130_e, va_rf_s, bz_0, bz_1, bz_ok, bb_ok, Nat.add_assoc, w_lt, w_add, w_sub, w_mul, w_div, em_def, w_eq, w_inT, ↓ilt_t, ↓ilt_f, ↓ieq_t, ↓ieq_f, ntT, w_b, w_ix, kx_v, kx_n, kl_n, kl_i, kl_r, kl_o, inA_i, inA_s, inA_b, inA_z, inA_l, inA_0, inA_4, inA_5, inA_6, inA_7, inA_8, inA_9, inA_10, al_0, al_1, al_2, al_4, al_5, al_98, bsP_2, bsP_3, wr_same, wr_wr, wr_ne, up_same, up_ne, Nat.reduceAdd, Int.reduceAdd, Int.reduceSub, Int.reduceMul, Int.reduceLT, Int.reduceLE, Int.reduceEq, Int.reduceNeg, Int.reduceToNat, Nat.reduceLT, Nat.reduceLeDiff, Nat.reduceEqDiff, ↓reduceIte, true_and, and_true, not_true_eq_false, not_false_eq_true, eq_self, or_true, true_or, or_false, false_or, if_true, if_false, Int.toNat_natCast, w_ite, Nat.add_zero, reduceCtorEq, ne_eq, hm0, hk5, s31, s32]
      have esl : slot n * 100 = ((sl n * 100 : Nat) : Int) := by rw [Int.natCast_mul, sl_c]; rfl
      rw [esl]
      have hsb := sl_bd n
      have hy := hsd.2.2.1
      have hm1 : S (o + 3) = some (.inl (2, 115200)) := hv.2.1.2.1
      refine sp_48 g.hK b3 hM2 g.ok hO2 hm1 (by decide) (by omega) hsd2.2.2.2.1 (by omega) (fun b hb => by rcases hsd.2.2.2.2 b hb with e | e <;> omega) (by omega) (fun I3 f3 e3 hF => ?_)
      have hr3 := h2.rk1 cl g2 f3 (fun j hj => e3 j (by omega) (by omega))
      have hQ' := CK.ask h ((hr1.trans hr2).trans hr3) hQ
      dsimp only at hQ'
      unfold vHeard at hQ'
      rw [hT] at hQ'
      simp (disch := omega) only [q_130_0, q_130_1, q_130_2, q_130_5, q_130_6, q_130_7, q_130_8, q_130_9, q_130_12, q_130_13, q_130_14, q_130_15, q_130_18, q_130_21, q_130_22, q_130_23, q_130_24, q_130_27, q_130_29, q_130_30, q_130_31, q_130_34, q_130_35, q_130_38, q_130_41, q_130_44, q_130_46, q_130_49, q_130_51, q_130_52, q_130_55, q_130_57, q_130_58, q_130_61, q_130_64, q_130_e, va_rf_s, bz_0, bz_1, bz_ok, bb_ok, Nat.add_assoc, w_lt, w_add, w_sub, w_mul, w_div, em_def, w_eq, w_inT, ↓ilt_t, ↓ilt_f, ↓ieq_t, ↓ieq_f, ntT, w_b, w_ix, kx_v, kx_n, kl_n, kl_i, kl_r, kl_o, inA_i, inA_s, inA_b, inA_z, inA_l, inA_0, inA_4, inA_5, inA_6, inA_7, inA_8, inA_9, inA_10, al_0, al_1, al_2, al_4, al_5, al_98, bsP_2, bsP_3, wr_same, wr_wr, wr_ne, up_same, up_ne, Nat.reduceAdd, Int.reduceAdd, Int.reduceSub, Int.reduceMul, Int.reduceLT, Int.reduceLE, Int.reduceEq, Int.reduceNeg, Int.reduceToNat, Nat.reduceLT, Nat.reduceLeDiff, Nat.reduceEqDiff, ↓reduceIte, true_and, and_true, not_true_eq_false, not_false_eq_true, eq_self, or_true, true_or, or_false, false_or, if_true, if_false, Int.toNat_natCast, w_ite, Nat.add_zero, reduceCtorEq, ne_eq]
      exact hQ'
  · rw [if_neg cl] at hQ
    have s143 := fun {d : Nat} {Q : XO → Hp → Prop} => h.noL (d := d) (Q := Q) hl cl
    simp (disch := omega) only [q_130_0, q_130_1, q_130_2, q_130_5, q_130_6, q_130_7, q_130_8, q_130_9, q_130_12, q_130_13, q_130_14, q_130_15, q_130_18, q_130_21, q_130_22, q_130_23, q_130_24, q_130_27, q_130_29, q_130_30, q_130_31, q_130_34, q_130_35, q_130_38, q_130_41, q_130_44, q_130_46, q_130_49, q_130_51, q_130_52, q_130_55, q_130_57, q_130_58, q_130_61, q_130_64, q_130_e, va_rf_s, bz_0, bz_1, bz_ok, bb_ok, Nat.add_assoc, w_lt, w_add, w_sub, w_mul, w_div, em_def, w_eq, w_inT, ↓ilt_t, ↓ilt_f, ↓ieq_t, ↓ieq_f, ntT, w_b, w_ix, kx_v, kx_n, kl_n, kl_i, kl_r, kl_o, inA_i, inA_s, inA_b, inA_z, inA_l, inA_0, inA_4, inA_5, inA_6, inA_7, inA_8, inA_9, inA_10, al_0, al_1, al_2, al_4, al_5, al_98, bsP_2, bsP_3, wr_same, wr_wr, wr_ne, up_same, up_ne, Nat.reduceAdd, Int.reduceAdd, Int.reduceSub, Int.reduceMul, Int.reduceLT, Int.reduceLE, Int.reduceEq, Int.reduceNeg, Int.reduceToNat, Nat.reduceLT, Nat.reduceLeDiff, Nat.reduceEqDiff, ↓reduceIte, true_and, and_true, not_true_eq_false, not_false_eq_true, eq_self, or_true, true_or, or_false, false_or, if_true, if_false, Int.toNat_natCast, w_ite, Nat.add_zero, reduceCtorEq, ne_eq, hc, s143, kx_t hk]
    exact CK.mis h (Rem.refl h) hf.1 hQ
end

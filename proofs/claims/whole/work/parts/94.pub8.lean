/-! words, chain -/
noncomputable def wres (W : List (List Int)) : Nat × Nat × Nat := @dite _ (∃ t : Nat × Nat × Nat, WRes W t.1 t.2.1 t.2.2) (Classical.propDecidable _) (fun h => Classical.choose h) (fun _ => (0, 0, 0))
theorem wres_eq {W : List (List Int)} {u m l : Nat} (hw : ∀ x ∈ W, x ≠ [] ∧ ∀ b ∈ x, 97 ≤ b ∧ b ≤ 122) (h : WRes W u m l) : wres W = (u, m, l) := by
  have hex : ∃ t : Nat × Nat × Nat, WRes W t.1 t.2.1 t.2.2 := ⟨(u, m, l), h⟩
  unfold wres
  rw [dif_pos hex]
  have h2 := Classical.choose_spec hex
  obtain ⟨e1, e2, e3⟩ := WRes_uniq hw h2 h
  exact Prod.ext e1 (Prod.ext e2 e3)
noncomputable def vWords (rs : List Rl) (h : Nat) (x : Int) : Int := if x = 0 then ((wres (wl_ rs (h + 1))).1 : Int) else if x = 1 then ((wres (wl_ rs (h + 1))).2.1 : Int) else ((wres (wl_ rs (h + 1))).2.2 : Int)
def chF (f : Int → Option (List Int)) : Nat → List Int → Int → List Int × Int
  | 0, Ls, _ => (Ls, -1)
  | k + 1, Ls, n => match f n with
    | none => (Ls, -1)
    | some t => if n ∈ Ls then (Ls, n) else chF f k (Ls ++ [n]) (nlet t)
def vChain (rs : List Rl) (n x : Int) : Int := if x = 0 then ((chF (T rs) 103 [] n).1.length : Int) else if x = 1 then (chF (T rs) 103 [] n).1.getLastD (-1) else (chF (T rs) 103 [] n).2
theorem chF_len {f : Int → Option (List Int)} : ∀ (k : Nat) (Ls : List Int) (n : Int), (chF f k Ls n).1.length ≤ Ls.length + k
  | 0, Ls, n => Nat.le_refl _
  | k + 1, Ls, n => by
    unfold chF
    split
    · exact Nat.le_add_right _ _
    · split
      · exact Nat.le_add_right _ _
      · rename_i t _ _
        have := chF_len (f := f) k (Ls ++ [n]) (nlet t)
        rw [List.length_append, List.length_cons, List.length_nil] at this
        omega
section
variable {d : Nat} {Q : XO → Hp → Prop} {S : SH} {I : MI} {L : ML} {R : MR} {G : MG} {A : Hp}
variable {c lo : Nat} {s : St}
theorem CR.wc (h : CR S I L R G c lo s) {l : Int} {k : Nat} (cl : inL l) (g : Lg S I L R G c lo s l k) {I' : MI} (hf : ∀ a, (a < k + 1 ∨ k + 1 + 17 ≤ a) → (a < c + 108 ∨ c + 108 + 3 < a) → I' a = I a) (hq : vq (rlz s l) I I' (k + 1)) : Rem S I L R c s I' L := by
  have gb := g.b1
  have gb2 := g.b2
  have ek := g.hk
  refine ⟨fun a ha => ⟨hf a (by omega) (by omega), rfl⟩, fun a h1 h2 => hf a (by omega) (by omega), fun l' hl' => ?_⟩
  obtain ⟨k1, k2, k6⟩ := h.rank hl'
  have far := h.ruleFar hl'
  by_cases e : l' = l.toNat
  · have ek : c + 51 + 20 * l' = k := by rw [e]; exact g.hk.symm
    have er : s.2.1.2 l' = rlz s l := by rw [e]; rfl
    rw [ek, er]
    rw [ek, er] at far
    refine ⟨g.hR.keep hq.1 (fun _ _ => rfl) (fun i r hi hr y y1 y2 => ⟨rfl, hf y (by have := far i r hi hr; omega) (by have := far i r hi hr; omega), rfl⟩), hq.2.1, hq.2.2.1, ?_⟩
    rcases g.hO with h4 | ⟨p, p1, p2, p3⟩
    · exact Or.inl (by rw [hf k (by omega) (by omega)]; exact h4)
    · exact Or.inr ⟨p, p1, by rw [hf k (by omega) (by omega)]; exact p2, p3.keep p1 (by rw [hf k (by omega) (by omega)]) (hf _ (by omega) (by omega)) hq⟩
  · exact k2.keep (fun a h1 h2 => hf a (by omega) (by omega)) (fun _ _ => rfl) (fun i r hi hr y y1 y2 => ⟨rfl, hf y (by have := far i r hi hr; omega) (by have := far i r hi hr; omega), rfl⟩)
theorem sp_137 {l x : Int} (h : CR S I L R G c lo s) (hf : few s) (hl : B32 l) (hx : B32 x) (hQ : CK S I L R G c lo Q (outX (rLx s l x 2 (fun rs => vWords rs s.2.1.1 x)).1) (rLx s l x 2 (fun rs => vWords rs s.2.1.1 x)).2) : XC (d + 70) 137 [.ref c, .int (w l), .int (w x)] (mk S I L R G) Q := by
  have hc := h.1.1
  have hk : t_han 137 = [] := rfl
  unfold rLx at hQ
  by_cases cl : inL l
  · rw [if_pos cl] at hQ
    obtain ⟨k, g⟩ := h.lg cl
    have p142 := @g.p142
    have p143 := @g.p143
    by_cases cx : 0 ≤ x ∧ x ≤ 2
    · rw [if_pos cx] at hQ
      have s146 := fun {d : Nat} {Q : XO → Hp → Prop} => h.in (d := d) (Q := Q) hx (y := 0) (z := 2) (by decide) (by decide) cx
      have hB := h.1.2.2.1.1
      obtain ⟨b1, b2, b3, b4⟩ := h.bk
      have hW := h.1.2.2.2.2.2.2.2.2.1
      have hlo := h.2.1
      have gb := g.b1
      have gb2 := g.b2
      simp (disch := omega) only [q_137_0, q_137_1, q_137_2, q_137_5, q_137_6, q_137_7, q_137_8, q_137_9, q_137_12, q_137_13, q_137_16, q_137_17, q_137_18, q_137_21, q_137_22, q_137_25, q_137_28, q_137_31, q_137_32, q_137_60, q_137_61, q_137_64, q_137_67, q_137_68, q_137_69, q_137_72, q_137_75, q_137_76, q_137_77, q_137_80, q_137_83, q_137_e, va_rf_s, bz_0, bz_1, bz_ok, bb_ok, Nat.add_assoc, w_lt, w_add, w_sub, w_mul, w_div, em_def, w_eq, w_inT, ↓ilt_t, ↓ilt_f, ↓ieq_t, ↓ieq_f, ntT, w_b, w_ix, kx_v, kx_n, kl_n, kl_i, kl_r, kl_o, inA_i, inA_s, inA_b, inA_z, inA_l, inA_0, inA_4, inA_5, inA_6, inA_7, inA_8, inA_9, inA_10, al_0, al_1, al_2, al_4, al_5, al_98, bsP_2, bsP_3, wr_same, wr_wr, wr_ne, up_same, up_ne, Nat.reduceAdd, Int.reduceAdd, Int.reduceSub, Int.reduceMul, Int.reduceLT, Int.reduceLE, Int.reduceEq, Int.reduceNeg, Int.reduceToNat, Nat.reduceLT, Nat.reduceLeDiff, Nat.reduceEqDiff, ↓reduceIte, true_and, and_true, not_true_eq_false, not_false_eq_true, eq_self, or_true, true_or, or_false, false_or, if_true, if_false, Int.toNat_natCast, w_ite, Nat.add_zero, reduceCtorEq, ne_eq, hc, p143, s146, p142, hB, b1, hW.1]
      refine sp_97 hW g.hK.2.1 (by omega) g.hR g.hl (by omega) (by omega) g.hM g.hU b3 (fun I1 un mt ml hf1 hq hres hD => ?_)
      have hQ' := CK.ask h (h.wc cl g hf1 hq) hQ
      dsimp only at hQ'
      unfold vWords at hQ'
      rw [wres_eq (wl_ok g.ok _) hres] at hQ'
      dsimp only at hQ'
      have s102 := fun {d : Nat} {Q : XO → Hp → Prop} => sp_102 (d := d) (Q := Q) (L := L) (R := R) (G := G) hW hD
      have s103 := fun {d : Nat} {Q : XO → Hp → Prop} => sp_103 (d := d) (Q := Q) (L := L) (R := R) (G := G) hW hD
      have e3 := hD.1
      have hW0 := hW.1
      simp (disch := omega) only [q_137_0, q_137_1, q_137_2, q_137_5, q_137_6, q_137_7, q_137_8, q_137_9, q_137_12, q_137_13, q_137_16, q_137_17, q_137_18, q_137_21, q_137_22, q_137_25, q_137_28, q_137_31, q_137_32, q_137_60, q_137_61, q_137_64, q_137_67, q_137_68, q_137_69, q_137_72, q_137_75, q_137_76, q_137_77, q_137_80, q_137_83, q_137_e, va_rf_s, bz_0, bz_1, bz_ok, bb_ok, Nat.add_assoc, w_lt, w_add, w_sub, w_mul, w_div, em_def, w_eq, w_inT, ↓ilt_t, ↓ilt_f, ↓ieq_t, ↓ieq_f, ntT, w_b, w_ix, kx_v, kx_n, kl_n, kl_i, kl_r, kl_o, inA_i, inA_s, inA_b, inA_z, inA_l, inA_0, inA_4, inA_5, inA_6, inA_7, inA_8, inA_9, inA_10, al_0, al_1, al_2, al_4, al_5, al_98, bsP_2, bsP_3, wr_same, wr_wr, wr_ne, up_same, up_ne, Nat.reduceAdd, Int.reduceAdd, Int.reduceSub, Int.reduceMul, Int.reduceLT, Int.reduceLE, Int.reduceEq, Int.reduceNeg, Int.reduceToNat, Nat.reduceLT, Nat.reduceLeDiff, Nat.reduceEqDiff, ↓reduceIte, true_and, and_true, not_true_eq_false, not_false_eq_true, eq_self, or_true, true_or, or_false, false_or, if_true, if_false, Int.toNat_natCast, w_ite, Nat.add_zero, reduceCtorEq, ne_eq, w_toInt]
      have hcs : x = 0 ∨ x = 1 ∨ x = 2 := by omega
      rcases hcs with e | e | e
      · subst e
        rw [show swL [(0, 60), (1, 68)] 76 0 = 60 from rfl]
        simp (disch := omega) only [q_137_0, q_137_1, q_137_2, q_137_5, q_137_6, q_137_7, q_137_8, q_137_9, q_137_12, q_137_13, q_137_16, q_137_17, q_137_18, q_137_21, q_137_22, q_137_25, q_137_28, q_137_31, q_137_32, q_137_60, q_137_61, q_137_64, q_137_67, q_137_68, q_137_69, q_137_72, q_137_75, q_137_76, q_137_77, q_137_80, q_137_83, q_137_e, va_rf_s, bz_0, bz_1, bz_ok, bb_ok, Nat.add_assoc, w_lt, w_add, w_sub, w_mul, w_div, em_def, w_eq, w_inT, ↓ilt_t, ↓ilt_f, ↓ieq_t, ↓ieq_f, ntT, w_b, w_ix, kx_v, kx_n, kl_n, kl_i, kl_r, kl_o, inA_i, inA_s, inA_b, inA_z, inA_l, inA_0, inA_4, inA_5, inA_6, inA_7, inA_8, inA_9, inA_10, al_0, al_1, al_2, al_4, al_5, al_98, bsP_2, bsP_3, wr_same, wr_wr, wr_ne, up_same, up_ne, Nat.reduceAdd, Int.reduceAdd, Int.reduceSub, Int.reduceMul, Int.reduceLT, Int.reduceLE, Int.reduceEq, Int.reduceNeg, Int.reduceToNat, Nat.reduceLT, Nat.reduceLeDiff, Nat.reduceEqDiff, ↓reduceIte, true_and, and_true, not_true_eq_false, not_false_eq_true, eq_self, or_true, true_or, or_false, false_or, if_true, if_false, Int.toNat_natCast, w_ite, Nat.add_zero, reduceCtorEq, ne_eq, hc, hW0, e3]
        exact hQ'
      · subst e
        rw [show swL [(0, 60), (1, 68)] 76 1 = 68 from rfl]
        simp (disch := omega) only [q_137_0, q_137_1, q_137_2, q_137_5, q_137_6, q_137_7, q_137_8, q_137_9, q_137_12, q_137_13, q_137_16, q_137_17, q_137_18, q_137_21, q_137_22, q_137_25, q_137_28, q_137_31, q_137_32, q_137_60, q_137_61, q_137_64, q_137_67, q_137_68, q_137_69, q_137_72, q_137_75, q_137_76, q_137_77, q_137_80, q_137_83, q_137_e, va_rf_s, bz_0, bz_1, bz_ok, bb_ok, Nat.add_assoc, w_lt, w_add, w_sub, w_mul, w_div, em_def, w_eq, w_inT, ↓ilt_t, ↓ilt_f, ↓ieq_t, ↓ieq_f, ntT, w_b, w_ix, kx_v, kx_n, kl_n, kl_i, kl_r, kl_o, inA_i, inA_s, inA_b, inA_z, inA_l, inA_0, inA_4, inA_5, inA_6, inA_7, inA_8, inA_9, inA_10, al_0, al_1, al_2, al_4, al_5, al_98, bsP_2, bsP_3, wr_same, wr_wr, wr_ne, up_same, up_ne, Nat.reduceAdd, Int.reduceAdd, Int.reduceSub, Int.reduceMul, Int.reduceLT, Int.reduceLE, Int.reduceEq, Int.reduceNeg, Int.reduceToNat, Nat.reduceLT, Nat.reduceLeDiff, Nat.reduceEqDiff, ↓reduceIte, true_and, and_true, not_true_eq_false, not_false_eq_true, eq_self, or_true, true_or, or_false, false_or, if_true, if_false, Int.toNat_natCast, w_ite, Nat.add_zero, reduceCtorEq, ne_eq, hc, hW0, s102]
        exact hQ'
      · subst e
        rw [show swL [(0, 60), (1, 68)] 76 2 = 76 from rfl]
        simp (disch := omega) only [q_137_0, q_137_1, q_137_2, q_137_5, q_137_6, q_137_7, q_137_8, q_137_9, q_137_12, q_137_13, q_137_16, q_137_17, q_137_18, q_137_21, q_137_22, q_137_25, q_137_28, q_137_31, q_137_32, q_137_60, q_137_61, q_137_64, q_137_67, q_137_68, q_137_69, q_137_72, q_137_75, q_137_76, q_137_77, q_137_80, q_137_83, q_137_e, va_rf_s, bz_0, bz_1, bz_ok, bb_ok, Nat.add_assoc, w_lt, w_add, w_sub, w_mul, w_div, em_def, w_eq, w_inT, ↓ilt_t, ↓ilt_f, ↓ieq_t, ↓ieq_f, ntT, w_b, w_ix, kx_v, kx_n, kl_n, kl_i, kl_r, kl_o, inA_i, inA_s, inA_b, inA_z, inA_l, inA_0, inA_4, inA_5, inA_6, inA_7, inA_8, inA_9, inA_10, al_0, al_1, al_2, al_4, al_5, al_98, bsP_2, bsP_3, wr_same, wr_wr, wr_ne, up_same, up_ne, Nat.reduceAdd, Int.reduceAdd, Int.reduceSub, Int.reduceMul, Int.reduceLT, Int.reduceLE, Int.reduceEq, Int.reduceNeg, Int.reduceToNat, Nat.reduceLT, Nat.reduceLeDiff, Nat.reduceEqDiff, ↓reduceIte, true_and, and_true, not_true_eq_false, not_false_eq_true, eq_self, or_true, true_or, or_false, false_or, if_true, if_false, Int.toNat_natCast, w_ite, Nat.add_zero, reduceCtorEq, ne_eq, hc, hW0, s103]
        exact hQ'
    · rw [if_neg cx] at hQ
      have s146 := fun {d : Nat} {Q : XO → Hp → Prop} => h.noI (d := d) (Q := Q) hx (y := 0) (z := 2) (by decide) (by decide) cx
      simp (disch := omega) only [q_137_0, q_137_1, q_137_2, q_137_5, q_137_6, q_137_7, q_137_8, q_137_9, q_137_12, q_137_13, q_137_16, q_137_17, q_137_18, q_137_21, q_137_22, q_137_25, q_137_28, q_137_31, q_137_32, q_137_60, q_137_61, q_137_64, q_137_67, q_137_68, q_137_69, q_137_72, q_137_75, q_137_76, q_137_77, q_137_80, q_137_83, q_137_e, va_rf_s, bz_0, bz_1, bz_ok, bb_ok, Nat.add_assoc, w_lt, w_add, w_sub, w_mul, w_div, em_def, w_eq, w_inT, ↓ilt_t, ↓ilt_f, ↓ieq_t, ↓ieq_f, ntT, w_b, w_ix, kx_v, kx_n, kl_n, kl_i, kl_r, kl_o, inA_i, inA_s, inA_b, inA_z, inA_l, inA_0, inA_4, inA_5, inA_6, inA_7, inA_8, inA_9, inA_10, al_0, al_1, al_2, al_4, al_5, al_98, bsP_2, bsP_3, wr_same, wr_wr, wr_ne, up_same, up_ne, Nat.reduceAdd, Int.reduceAdd, Int.reduceSub, Int.reduceMul, Int.reduceLT, Int.reduceLE, Int.reduceEq, Int.reduceNeg, Int.reduceToNat, Nat.reduceLT, Nat.reduceLeDiff, Nat.reduceEqDiff, ↓reduceIte, true_and, and_true, not_true_eq_false, not_false_eq_true, eq_self, or_true, true_or, or_false, false_or, if_true, if_false, Int.toNat_natCast, w_ite, Nat.add_zero, reduceCtorEq, ne_eq, hc, p143, s146, kx_t hk]
      exact CK.wro h (Rem.refl h) hf.2 hQ
  · rw [if_neg cl] at hQ
    have s143 := fun {d : Nat} {Q : XO → Hp → Prop} => h.noL (d := d) (Q := Q) hl cl
    simp (disch := omega) only [q_137_0, q_137_1, q_137_2, q_137_5, q_137_6, q_137_7, q_137_8, q_137_9, q_137_12, q_137_13, q_137_16, q_137_17, q_137_18, q_137_21, q_137_22, q_137_25, q_137_28, q_137_31, q_137_32, q_137_60, q_137_61, q_137_64, q_137_67, q_137_68, q_137_69, q_137_72, q_137_75, q_137_76, q_137_77, q_137_80, q_137_83, q_137_e, va_rf_s, bz_0, bz_1, bz_ok, bb_ok, Nat.add_assoc, w_lt, w_add, w_sub, w_mul, w_div, em_def, w_eq, w_inT, ↓ilt_t, ↓ilt_f, ↓ieq_t, ↓ieq_f, ntT, w_b, w_ix, kx_v, kx_n, kl_n, kl_i, kl_r, kl_o, inA_i, inA_s, inA_b, inA_z, inA_l, inA_0, inA_4, inA_5, inA_6, inA_7, inA_8, inA_9, inA_10, al_0, al_1, al_2, al_4, al_5, al_98, bsP_2, bsP_3, wr_same, wr_wr, wr_ne, up_same, up_ne, Nat.reduceAdd, Int.reduceAdd, Int.reduceSub, Int.reduceMul, Int.reduceLT, Int.reduceLE, Int.reduceEq, Int.reduceNeg, Int.reduceToNat, Nat.reduceLT, Nat.reduceLeDiff, Nat.reduceEqDiff, ↓reduceIte, true_and, and_true, not_true_eq_false, not_false_eq_true, eq_self, or_true, true_or, or_false, false_or, if_true, if_false, Int.toNat_natCast, w_ite, Nat.add_zero, reduceCtorEq, ne_eq, hc, s143, kx_t hk]
    exact CK.mis h (Rem.refl h) hf.1 hQ
theorem sp_135 {n : Int} {Ls : List Int} (hc : S c = some (.inr 11)) (h1 : S (c + 120) = some (.inl (0, 103))) (hL : Ls.length ≤ 103) (hT : Txt (I (c + 120)) 0 Ls) (hn : B32 n) (hb : ∀ y ∈ Ls, B32 y) : XC d 135 [.ref c, .int (w n), .int (w Ls.length)] (mk S I L R G) Q ↔ Q (.inl (some (.int (bz (decide (n ∈ Ls)))))) (mk S I L R G) := by
  have lp : ∀ (j i : Nat), i + j = Ls.length → (XX d 135 2 [some (.ref c), some (.int (w n)), some (.int (w Ls.length)), some (.int (w i))] [] (mk S I L R G) Q ↔ Q (.inl (some (.int (bz (decide (n ∈ Ls.drop i)))))) (mk S I L R G)) := by
    intro j
    induction j with
    | zero =>
      intro i hi
      rw [q_135_2]
      rw [List.drop_eq_nil_of_le (by omega)]
      simp (disch := omega) only [q_135_0, q_135_1, q_135_3, q_135_4, q_135_7, q_135_8, q_135_10, q_135_13, q_135_14, q_135_17, q_135_18, q_135_19, q_135_20, q_135_23, q_135_24, q_135_25, q_135_28, q_135_31, q_135_32, q_135_e, va_rf_s, bz_0, bz_1, bz_ok, bb_ok, Nat.add_assoc, w_lt, w_add, w_sub, w_mul, w_div, em_def, w_eq, w_inT, ↓ilt_t, ↓ilt_f, ↓ieq_t, ↓ieq_f, ntT, w_b, w_ix, kx_v, kx_n, kl_n, kl_i, kl_r, kl_o, inA_i, inA_s, inA_b, inA_z, inA_l, inA_0, inA_4, inA_5, inA_6, inA_7, inA_8, inA_9, inA_10, al_0, al_1, al_2, al_4, al_5, al_98, bsP_2, bsP_3, wr_same, wr_wr, wr_ne, up_same, up_ne, Nat.reduceAdd, Int.reduceAdd, Int.reduceSub, Int.reduceMul, Int.reduceLT, Int.reduceLE, Int.reduceEq, Int.reduceNeg, Int.reduceToNat, Nat.reduceLT, Nat.reduceLeDiff, Nat.reduceEqDiff, ↓reduceIte, true_and, and_true, not_true_eq_false, not_false_eq_true, eq_self, or_true, true_or, or_false, false_or, if_true, if_false, Int.toNat_natCast, w_ite, Nat.add_zero, reduceCtorEq, ne_eq, List.not_mem_nil, decide_false]
      exact Iff.rfl
    | succ j ih =>
      intro i hi
      have hil : i < Ls.length := by omega
      have e := hT i hil
      rw [Nat.zero_add] at e
      have hg : Ls.getD i 0 = Ls[i] := by rw [List.getD_eq_getElem?_getD, List.getElem?_eq_getElem hil]; rfl
      have hby := hb Ls[i] (List.getElem_mem hil)
      rw [hg] at e
      have ih' := ih (i + 1) (by omega)
      simp only [Int.natCast_add, Int.natCast_one] at ih'
      rw [List.drop_eq_getElem_cons hil]
      rw [q_135_2]
      by_cases c0 : Ls[i] = n
      · simp (disch := omega) only [q_135_0, q_135_1, q_135_3, q_135_4, q_135_7, q_135_8, q_135_10, q_135_13, q_135_14, q_135_17, q_135_18, q_135_19, q_135_20, q_135_23, q_135_24, q_135_25, q_135_28, q_135_31, q_135_32, q_135_e, va_rf_s, bz_0, bz_1, bz_ok, bb_ok, Nat.add_assoc, w_lt, w_add, w_sub, w_mul, w_div, em_def, w_eq, w_inT, ↓ilt_t, ↓ilt_f, ↓ieq_t, ↓ieq_f, ntT, w_b, w_ix, kx_v, kx_n, kl_n, kl_i, kl_r, kl_o, inA_i, inA_s, inA_b, inA_z, inA_l, inA_0, inA_4, inA_5, inA_6, inA_7, inA_8, inA_9, inA_10, al_0, al_1, al_2, al_4, al_5, al_98, bsP_2, bsP_3, wr_same, wr_wr, wr_ne, up_same, up_ne, Nat.reduceAdd, Int.reduceAdd, Int.reduceSub, Int.reduceMul, Int.reduceLT, Int.reduceLE, Int.reduceEq, Int.reduceNeg, Int.reduceToNat, Nat.reduceLT, Nat.reduceLeDiff, Nat.reduceEqDiff, ↓reduceIte, true_and, and_true, not_true_eq_false, not_false_eq_true, eq_self, or_true, true_or, or_false, false_or, if_true, if_false, Int.toNat_natCast, w_ite, Nat.add_zero, reduceCtorEq, ne_eq, hc, h1, e]
        rw [decide_eq_true (by rw [c0]; exact List.mem_cons_self ..)]
        exact Iff.rfl
      · simp (disch := omega) only [q_135_0, q_135_1, q_135_3, q_135_4, q_135_7, q_135_8, q_135_10, q_135_13, q_135_14, q_135_17, q_135_18, q_135_19, q_135_20, q_135_23, q_135_24, q_135_25, q_135_28, q_135_31, q_135_32, q_135_e, va_rf_s, bz_0, bz_1, bz_ok, bb_ok, Nat.add_assoc, w_lt, w_add, w_sub, w_mul, w_div, em_def, w_eq, w_inT, ↓ilt_t, ↓ilt_f, ↓ieq_t, ↓ieq_f, ntT, w_b, w_ix, kx_v, kx_n, kl_n, kl_i, kl_r, kl_o, inA_i, inA_s, inA_b, inA_z, inA_l, inA_0, inA_4, inA_5, inA_6, inA_7, inA_8, inA_9, inA_10, al_0, al_1, al_2, al_4, al_5, al_98, bsP_2, bsP_3, wr_same, wr_wr, wr_ne, up_same, up_ne, Nat.reduceAdd, Int.reduceAdd, Int.reduceSub, Int.reduceMul, Int.reduceLT, Int.reduceLE, Int.reduceEq, Int.reduceNeg, Int.reduceToNat, Nat.reduceLT, Nat.reduceLeDiff, Nat.reduceEqDiff, ↓reduceIte, true_and, and_true, not_true_eq_false, not_false_eq_true, eq_self, or_true, true_or, or_false, false_or, if_true, if_false, Int.toNat_natCast, w_ite, Nat.add_zero, reduceCtorEq, ne_eq, hc, h1, e]
        rw [ih']
        have : (n ∈ Ls[i] :: Ls.drop (i + 1)) ↔ n ∈ Ls.drop (i + 1) := by
          rw [List.mem_cons]
          exact ⟨fun h => h.resolve_left (fun e => c0 e.symm), Or.inr⟩
        simp only [this]
  have := lp Ls.length 0 (by omega)
  rw [List.drop_zero] at this
  simp (disch := omega) only [q_135_0, q_135_1, q_135_3, q_135_4, q_135_7, q_135_8, q_135_10, q_135_13, q_135_14, q_135_17, q_135_18, q_135_19, q_135_20, q_135_23, q_135_24, q_135_25, q_135_28, q_135_31, q_135_32, q_135_e, va_rf_s, bz_0, bz_1, bz_ok, bb_ok, Nat.add_assoc, w_lt, w_add, w_sub, w_mul, w_div, em_def, w_eq, w_inT, ↓ilt_t, ↓ilt_f, ↓ieq_t, ↓ieq_f, ntT, w_b, w_ix, kx_v, kx_n, kl_n, kl_i, kl_r, kl_o, inA_i, inA_s, inA_b, inA_z, inA_l, inA_0, inA_4, inA_5, inA_6, inA_7, inA_8, inA_9, inA_10, al_0, al_1, al_2, al_4, al_5, al_98, bsP_2, bsP_3, wr_same, wr_wr, wr_ne, up_same, up_ne, Nat.reduceAdd, Int.reduceAdd, Int.reduceSub, Int.reduceMul, Int.reduceLT, Int.reduceLE, Int.reduceEq, Int.reduceNeg, Int.reduceToNat, Nat.reduceLT, Nat.reduceLeDiff, Nat.reduceEqDiff, ↓reduceIte, true_and, and_true, not_true_eq_false, not_false_eq_true, eq_self, or_true, true_or, or_false, false_or, if_true, if_false, Int.toNat_natCast, w_ite, Nat.add_zero, reduceCtorEq, ne_eq]
  exact this
theorem sp_134 {l n x : Int} (h : CR S I L R G c lo s) (hf : few s) (hl : B32 l) (hn : B32 n) (hx : B32 x) (hQ : CK S I L R G c lo Q (outX (rLx s l x 2 (fun rs => vChain rs n x)).1) (rLx s l x 2 (fun rs => vChain rs n x)).2) : XC (d + 70) 134 [.ref c, .int (w l), .int (w n), .int (w x)] (mk S I L R G) Q := by
  have hc := h.1.1
  have hk : t_han 134 = [] := rfl
  unfold rLx at hQ
  by_cases cl : inL l
  · rw [if_pos cl] at hQ
    obtain ⟨k, g⟩ := h.lg cl
    have p142 := @g.p142
    have p143 := @g.p143
    by_cases cx : 0 ≤ x ∧ x ≤ 2
    · rw [if_pos cx] at hQ
      have s146 := fun {d : Nat} {Q : XO → Hp → Prop} => h.in (d := d) (Q := Q) hx (y := 0) (z := 2) (by decide) (by decide) cx
      have hlk := h.1.2.2.2.2.2.2.2.2.2.2
      have hv := g.hK.2.1
      have hv0 := hv.1
      have hm0 : S (k + 2) = some (.inr 4) := hv.2.1.1
      -- the end
      have fin : ∀ (I1 : MI) (Ls : List Int) (ag i nx : Int), Rem S I L R c s I1 L → Txt (I1 (c + 120)) 0 Ls → Ls.length ≤ 103 → chF (T (rlz s l)) 103 [] n = (Ls, ag) → XX (d + 70) 134 105 [some (.ref c), some (.int (w l)), some (.int (w n)), some (.int (w x)), some (.ref (k + 1)), some (.int (w Ls.length)), some (.int (w nx)), some (.int (w ag)), some (.int (w i))] [] (mk S I1 L R G) Q := by
        intro I1 Ls ag i nx hr hT hlen hres
        have hQ' := CK.ask h hr hQ
        dsimp only at hQ'
        unfold vChain at hQ'
        rw [hres] at hQ'
        dsimp only at hQ'
        simp (disch := omega) only [q_134_0, q_134_1, q_134_2, q_134_5, q_134_6, q_134_7, q_134_8, q_134_9, q_134_12, q_134_13, q_134_14, q_134_17, q_134_19, q_134_20, q_134_22, q_134_23, q_134_25, q_134_26, q_134_28, q_134_29, q_134_33, q_134_35, q_134_38, q_134_40, q_134_41, q_134_44, q_134_46, q_134_48, q_134_51, q_134_54, q_134_55, q_134_57, q_134_59, q_134_62, q_134_65, q_134_67, q_134_69, q_134_72, q_134_73, q_134_76, q_134_78, q_134_80, q_134_81, q_134_83, q_134_84, q_134_85, q_134_87, q_134_89, q_134_92, q_134_94, q_134_97, q_134_99, q_134_102, q_134_105, q_134_106, q_134_132, q_134_134, q_134_135, q_134_137, q_134_140, q_134_142, q_134_144, q_134_147, q_134_148, q_134_151, q_134_153, q_134_154, q_134_155, q_134_156, q_134_159, q_134_160, q_134_161, q_134_163, q_134_e, va_rf_s, bz_0, bz_1, bz_ok, bb_ok, Nat.add_assoc, w_lt, w_add, w_sub, w_mul, w_div, em_def, w_eq, w_inT, ↓ilt_t, ↓ilt_f, ↓ieq_t, ↓ieq_f, ntT, w_b, w_ix, kx_v, kx_n, kl_n, kl_i, kl_r, kl_o, inA_i, inA_s, inA_b, inA_z, inA_l, inA_0, inA_4, inA_5, inA_6, inA_7, inA_8, inA_9, inA_10, al_0, al_1, al_2, al_4, al_5, al_98, bsP_2, bsP_3, wr_same, wr_wr, wr_ne, up_same, up_ne, Nat.reduceAdd, Int.reduceAdd, Int.reduceSub, Int.reduceMul, Int.reduceLT, Int.reduceLE, Int.reduceEq, Int.reduceNeg, Int.reduceToNat, Nat.reduceLT, Nat.reduceLeDiff, Nat.reduceEqDiff, ↓reduceIte, true_and, and_true, not_true_eq_false, not_false_eq_true, eq_self, or_true, true_or, or_false, false_or, if_true, if_false, Int.toNat_natCast, w_ite, Nat.add_zero, reduceCtorEq, ne_eq, w_toInt]
        have hcs : x = 0 ∨ x = 1 ∨ x = 2 := by omega
        rcases hcs with e | e | e
        · subst e
          rw [show swL [(0, 132), (1, 135)] 161 0 = 132 from rfl]
          simp (disch := omega) only [q_134_0, q_134_1, q_134_2, q_134_5, q_134_6, q_134_7, q_134_8, q_134_9, q_134_12, q_134_13, q_134_14, q_134_17, q_134_19, q_134_20, q_134_22, q_134_23, q_134_25, q_134_26, q_134_28, q_134_29, q_134_33, q_134_35, q_134_38, q_134_40, q_134_41, q_134_44, q_134_46, q_134_48, q_134_51, q_134_54, q_134_55, q_134_57, q_134_59, q_134_62, q_134_65, q_134_67, q_134_69, q_134_72, q_134_73, q_134_76, q_134_78, q_134_80, q_134_81, q_134_83, q_134_84, q_134_85, q_134_87, q_134_89, q_134_92, q_134_94, q_134_97, q_134_99, q_134_102, q_134_105, q_134_106, q_134_132, q_134_134, q_134_135, q_134_137, q_134_140, q_134_142, q_134_144, q_134_147, q_134_148, q_134_151, q_134_153, q_134_154, q_134_155, q_134_156, q_134_159, q_134_160, q_134_161, q_134_163, q_134_e, va_rf_s, bz_0, bz_1, bz_ok, bb_ok, Nat.add_assoc, w_lt, w_add, w_sub, w_mul, w_div, em_def, w_eq, w_inT, ↓ilt_t, ↓ilt_f, ↓ieq_t, ↓ieq_f, ntT, w_b, w_ix, kx_v, kx_n, kl_n, kl_i, kl_r, kl_o, inA_i, inA_s, inA_b, inA_z, inA_l, inA_0, inA_4, inA_5, inA_6, inA_7, inA_8, inA_9, inA_10, al_0, al_1, al_2, al_4, al_5, al_98, bsP_2, bsP_3, wr_same, wr_wr, wr_ne, up_same, up_ne, Nat.reduceAdd, Int.reduceAdd, Int.reduceSub, Int.reduceMul, Int.reduceLT, Int.reduceLE, Int.reduceEq, Int.reduceNeg, Int.reduceToNat, Nat.reduceLT, Nat.reduceLeDiff, Nat.reduceEqDiff, ↓reduceIte, true_and, and_true, not_true_eq_false, not_false_eq_true, eq_self, or_true, true_or, or_false, false_or, if_true, if_false, Int.toNat_natCast, w_ite, Nat.add_zero, reduceCtorEq, ne_eq]
          exact hQ'
        · subst e
          rw [show swL [(0, 132), (1, 135)] 161 1 = 135 from rfl]
          rw [if_neg (by decide), if_pos rfl] at hQ'
          cases Ls with
          | nil =>
            simp (disch := omega) only [q_134_0, q_134_1, q_134_2, q_134_5, q_134_6, q_134_7, q_134_8, q_134_9, q_134_12, q_134_13, q_134_14, q_134_17, q_134_19, q_134_20, q_134_22, q_134_23, q_134_25, q_134_26, q_134_28, q_134_29, q_134_33, q_134_35, q_134_38, q_134_40, q_134_41, q_134_44, q_134_46, q_134_48, q_134_51, q_134_54, q_134_55, q_134_57, q_134_59, q_134_62, q_134_65, q_134_67, q_134_69, q_134_72, q_134_73, q_134_76, q_134_78, q_134_80, q_134_81, q_134_83, q_134_84, q_134_85, q_134_87, q_134_89, q_134_92, q_134_94, q_134_97, q_134_99, q_134_102, q_134_105, q_134_106, q_134_132, q_134_134, q_134_135, q_134_137, q_134_140, q_134_142, q_134_144, q_134_147, q_134_148, q_134_151, q_134_153, q_134_154, q_134_155, q_134_156, q_134_159, q_134_160, q_134_161, q_134_163, q_134_e, va_rf_s, bz_0, bz_1, bz_ok, bb_ok, Nat.add_assoc, w_lt, w_add, w_sub, w_mul, w_div, em_def, w_eq, w_inT, ↓ilt_t, ↓ilt_f, ↓ieq_t, ↓ieq_f, ntT, w_b, w_ix, kx_v, kx_n, kl_n, kl_i, kl_r, kl_o, inA_i, inA_s, inA_b, inA_z, inA_l, inA_0, inA_4, inA_5, inA_6, inA_7, inA_8, inA_9, inA_10, al_0, al_1, al_2, al_4, al_5, al_98, bsP_2, bsP_3, wr_same, wr_wr, wr_ne, up_same, up_ne, Nat.reduceAdd, Int.reduceAdd, Int.reduceSub, Int.reduceMul, Int.reduceLT, Int.reduceLE, Int.reduceEq, Int.reduceNeg, Int.reduceToNat, Nat.reduceLT, Nat.reduceLeDiff, Nat.reduceEqDiff, ↓reduceIte, true_and, and_true, not_true_eq_false, not_false_eq_true, eq_self, or_true, true_or, or_false, false_or, if_true, if_false, Int.toNat_natCast, w_ite, Nat.add_zero, reduceCtorEq, ne_eq, List.length_nil]
            exact hQ'
          | cons a Ls' =>
            have e := hT Ls'.length (by rw [List.length_cons]; omega)
            rw [Nat.zero_add] at e
            have hge : (a :: Ls').getD Ls'.length 0 = (a :: Ls').getLastD (-1) := by
              rw [List.getD_eq_getElem?_getD, List.getLastD_eq_getLast?, List.getLast?_eq_getElem?]
              simp
            rw [hge] at e
            rw [List.length_cons] at hlen
            simp (disch := omega) only [q_134_0, q_134_1, q_134_2, q_134_5, q_134_6, q_134_7, q_134_8, q_134_9, q_134_12, q_134_13, q_134_14, q_134_17, q_134_19, q_134_20, q_134_22, q_134_23, q_134_25, q_134_26, q_134_28, q_134_29, q_134_33, q_134_35, q_134_38, q_134_40, q_134_41, q_134_44, q_134_46, q_134_48, q_134_51, q_134_54, q_134_55, q_134_57, q_134_59, q_134_62, q_134_65, q_134_67, q_134_69, q_134_72, q_134_73, q_134_76, q_134_78, q_134_80, q_134_81, q_134_83, q_134_84, q_134_85, q_134_87, q_134_89, q_134_92, q_134_94, q_134_97, q_134_99, q_134_102, q_134_105, q_134_106, q_134_132, q_134_134, q_134_135, q_134_137, q_134_140, q_134_142, q_134_144, q_134_147, q_134_148, q_134_151, q_134_153, q_134_154, q_134_155, q_134_156, q_134_159, q_134_160, q_134_161, q_134_163, q_134_e, va_rf_s, bz_0, bz_1, bz_ok, bb_ok, Nat.add_assoc, w_lt, w_add, w_sub, w_mul, w_div, em_def, w_eq, w_inT, ↓ilt_t, ↓ilt_f, ↓ieq_t, ↓ieq_f, ntT, w_b, w_ix, kx_v, kx_n, kl_n, kl_i, kl_r, kl_o, inA_i, inA_s, inA_b, inA_z, inA_l, inA_0, inA_4, inA_5, inA_6, inA_7, inA_8, inA_9, inA_10, al_0, al_1, al_2, al_4, al_5, al_98, bsP_2, bsP_3, wr_same, wr_wr, wr_ne, up_same, up_ne, Nat.reduceAdd, Int.reduceAdd, Int.reduceSub, Int.reduceMul, Int.reduceLT, Int.reduceLE, Int.reduceEq, Int.reduceNeg, Int.reduceToNat, Nat.reduceLT, Nat.reduceLeDiff, Nat.reduceEqDiff, ↓reduceIte, true_and, and_true, not_true_eq_false, not_false_eq_true, eq_self, or_true, true_or, or_false, false_or, if_true, if_false, Int.toNat_natCast, w_ite, Nat.add_zero, reduceCtorEq, ne_eq, List.length_cons, Int.natCast_add, Int.natCast_one, Int.add_sub_cancel, hc, hlk, e]
            exact hQ'
        · subst e
          rw [show swL [(0, 132), (1, 135)] 161 2 = 161 from rfl]
          simp (disch := omega) only [q_134_0, q_134_1, q_134_2, q_134_5, q_134_6, q_134_7, q_134_8, q_134_9, q_134_12, q_134_13, q_134_14, q_134_17, q_134_19, q_134_20, q_134_22, q_134_23, q_134_25, q_134_26, q_134_28, q_134_29, q_134_33, q_134_35, q_134_38, q_134_40, q_134_41, q_134_44, q_134_46, q_134_48, q_134_51, q_134_54, q_134_55, q_134_57, q_134_59, q_134_62, q_134_65, q_134_67, q_134_69, q_134_72, q_134_73, q_134_76, q_134_78, q_134_80, q_134_81, q_134_83, q_134_84, q_134_85, q_134_87, q_134_89, q_134_92, q_134_94, q_134_97, q_134_99, q_134_102, q_134_105, q_134_106, q_134_132, q_134_134, q_134_135, q_134_137, q_134_140, q_134_142, q_134_144, q_134_147, q_134_148, q_134_151, q_134_153, q_134_154, q_134_155, q_134_156, q_134_159, q_134_160, q_134_161, q_134_163, q_134_e, va_rf_s, bz_0, bz_1, bz_ok, bb_ok, Nat.add_assoc, w_lt, w_add, w_sub, w_mul, w_div, em_def, w_eq, w_inT, ↓ilt_t, ↓ilt_f, ↓ieq_t, ↓ieq_f, ntT, w_b, w_ix, kx_v, kx_n, kl_n, kl_i, kl_r, kl_o, inA_i, inA_s, inA_b, inA_z, inA_l, inA_0, inA_4, inA_5, inA_6, inA_7, inA_8, inA_9, inA_10, al_0, al_1, al_2, al_4, al_5, al_98, bsP_2, bsP_3, wr_same, wr_wr, wr_ne, up_same, up_ne, Nat.reduceAdd, Int.reduceAdd, Int.reduceSub, Int.reduceMul, Int.reduceLT, Int.reduceLE, Int.reduceEq, Int.reduceNeg, Int.reduceToNat, Nat.reduceLT, Nat.reduceLeDiff, Nat.reduceEqDiff, ↓reduceIte, true_and, and_true, not_true_eq_false, not_false_eq_true, eq_self, or_true, true_or, or_false, false_or, if_true, if_false, Int.toNat_natCast, w_ite, Nat.add_zero, reduceCtorEq, ne_eq]
          exact hQ'
      have lp : ∀ (j : Nat) (Ls : List Int) (nx : Int) (I1 : MI), Ls.length + j = 103 → Rem S I L R c s I1 L → Txt (I1 (c + 120)) 0 Ls → (∀ y ∈ Ls, B32 y) → B32 nx → chF (T (rlz s l)) j Ls nx = chF (T (rlz s l)) 103 [] n → XX (d + 70) 134 31 [some (.ref c), some (.int (w l)), some (.int (w n)), some (.int (w x)), some (.ref (k + 1)), some (.int (w Ls.length)), some (.int (w nx)), some (.int (w (-1))), some (.int (w Ls.length))] [] (mk S I1 L R G) Q := by
        intro j
        induction j with
        | zero =>
          intro Ls nx I1 hj hr hT hb hnx hres
          rw [q_134_31]
          have := fin I1 Ls (-1) Ls.length nx hr hT (by omega) hres.symm
          simp (disch := omega) only [q_134_0, q_134_1, q_134_2, q_134_5, q_134_6, q_134_7, q_134_8, q_134_9, q_134_12, q_134_13, q_134_14, q_134_17, q_134_19, q_134_20, q_134_22, q_134_23, q_134_25, q_134_26, q_134_28, q_134_29, q_134_33, q_134_35, q_134_38, q_134_40, q_134_41, q_134_44, q_134_46, q_134_48, q_134_51, q_134_54, q_134_55, q_134_57, q_134_59, q_134_62, q_134_65, q_134_67, q_134_69, q_134_72, q_134_73, q_134_76, q_134_78, q_134_80, q_134_81, q_134_83, q_134_84, q_134_85, q_134_87, q_134_89, q_134_92, q_134_94, q_134_97, q_134_99, q_134_102, q_134_106, q_134_132, q_134_134, q_134_135, q_134_137, q_134_140, q_134_142, q_134_144, q_134_147, q_134_148, q_134_151, q_134_153, q_134_154, q_134_155, q_134_156, q_134_159, q_134_160, q_134_161, q_134_163, q_134_e, va_rf_s, bz_0, bz_1, bz_ok, bb_ok, Nat.add_assoc, w_lt, w_add, w_sub, w_mul, w_div, em_def, w_eq, w_inT, ↓ilt_t, ↓ilt_f, ↓ieq_t, ↓ieq_f, ntT, w_b, w_ix, kx_v, kx_n, kl_n, kl_i, kl_r, kl_o, inA_i, inA_s, inA_b, inA_z, inA_l, inA_0, inA_4, inA_5, inA_6, inA_7, inA_8, inA_9, inA_10, al_0, al_1, al_2, al_4, al_5, al_98, bsP_2, bsP_3, wr_same, wr_wr, wr_ne, up_same, up_ne, Nat.reduceAdd, Int.reduceAdd, Int.reduceSub, Int.reduceMul, Int.reduceLT, Int.reduceLE, Int.reduceEq, Int.reduceNeg, Int.reduceToNat, Nat.reduceLT, Nat.reduceLeDiff, Nat.reduceEqDiff, ↓reduceIte, true_and, and_true, not_true_eq_false, not_false_eq_true, eq_self, or_true, true_or, or_false, false_or, if_true, if_false, Int.toNat_natCast, w_ite, Nat.add_zero, reduceCtorEq, ne_eq]
          exact this
        | succ j ih =>
          intro Ls nx I1 hj hr hT hb hnx hres
          have h1 := hr.cr h
          have g1 := h1.lgk cl g
          rw [q_134_31]
          simp (disch := omega) only [q_134_0, q_134_1, q_134_2, q_134_5, q_134_6, q_134_7, q_134_8, q_134_9, q_134_12, q_134_13, q_134_14, q_134_17, q_134_19, q_134_20, q_134_22, q_134_23, q_134_25, q_134_26, q_134_28, q_134_29, q_134_33, q_134_35, q_134_38, q_134_40, q_134_41, q_134_44, q_134_46, q_134_48, q_134_51, q_134_54, q_134_55, q_134_57, q_134_59, q_134_62, q_134_65, q_134_67, q_134_69, q_134_72, q_134_73, q_134_76, q_134_78, q_134_80, q_134_81, q_134_83, q_134_84, q_134_85, q_134_87, q_134_89, q_134_92, q_134_94, q_134_97, q_134_99, q_134_102, q_134_106, q_134_132, q_134_134, q_134_135, q_134_137, q_134_140, q_134_142, q_134_144, q_134_147, q_134_148, q_134_151, q_134_153, q_134_154, q_134_155, q_134_156, q_134_159, q_134_160, q_134_161, q_134_163, q_134_e, va_rf_s, bz_0, bz_1, bz_ok, bb_ok, Nat.add_assoc, w_lt, w_add, w_sub, w_mul, w_div, em_def, w_eq, w_inT, ↓ilt_t, ↓ilt_f, ↓ieq_t, ↓ieq_f, ntT, w_b, w_ix, kx_v, kx_n, kl_n, kl_i, kl_r, kl_o, inA_i, inA_s, inA_b, inA_z, inA_l, inA_0, inA_4, inA_5, inA_6, inA_7, inA_8, inA_9, inA_10, al_0, al_1, al_2, al_4, al_5, al_98, bsP_2, bsP_3, wr_same, wr_wr, wr_ne, up_same, up_ne, Nat.reduceAdd, Int.reduceAdd, Int.reduceSub, Int.reduceMul, Int.reduceLT, Int.reduceLE, Int.reduceEq, Int.reduceNeg, Int.reduceToNat, Nat.reduceLT, Nat.reduceLeDiff, Nat.reduceEqDiff, ↓reduceIte, true_and, and_true, not_true_eq_false, not_false_eq_true, eq_self, or_true, true_or, or_false, false_or, if_true, if_false, Int.toNat_natCast, w_ite, Nat.add_zero, reduceCtorEq, ne_eq, hv0]
          refine sp_84 hv g1.hR g1.hM g1.hU hnx.1 hnx.2 (fun I2 hp2 hk2 => ?_)
          have hr2 := g1.vp I2 hp2
          have gb := g.b1
          have gb2 := g.b2
          have hT2 : Txt (I2 (c + 120)) 0 Ls := by rw [hp2.1 _ (by omega)]; exact hT
          cases hs : sd (rlz s l) nx with
          | none =>
            have hTn : T (rlz s l) nx = none := by rw [T_sd, hs]; rfl
            unfold chF at hres
            rw [hTn] at hres
            have := fin I2 Ls (-1) Ls.length nx (hr.trans hr2) hT2 (by omega) hres.symm
            simp (disch := omega) only [q_134_0, q_134_1, q_134_2, q_134_5, q_134_6, q_134_7, q_134_8, q_134_9, q_134_12, q_134_13, q_134_14, q_134_17, q_134_19, q_134_20, q_134_22, q_134_23, q_134_25, q_134_26, q_134_28, q_134_29, q_134_33, q_134_35, q_134_38, q_134_40, q_134_41, q_134_44, q_134_46, q_134_48, q_134_51, q_134_54, q_134_55, q_134_57, q_134_59, q_134_62, q_134_65, q_134_67, q_134_69, q_134_72, q_134_73, q_134_76, q_134_78, q_134_80, q_134_81, q_134_83, q_134_84, q_134_85, q_134_87, q_134_89, q_134_92, q_134_94, q_134_97, q_134_99, q_134_102, q_134_106, q_134_132, q_134_134, q_134_135, q_134_137, q_134_140, q_134_142, q_134_144, q_134_147, q_134_148, q_134_151, q_134_153, q_134_154, q_134_155, q_134_156, q_134_159, q_134_160, q_134_161, q_134_163, q_134_e, va_rf_s, bz_0, bz_1, bz_ok, bb_ok, Nat.add_assoc, w_lt, w_add, w_sub, w_mul, w_div, em_def, w_eq, w_inT, ↓ilt_t, ↓ilt_f, ↓ieq_t, ↓ieq_f, ntT, w_b, w_ix, kx_v, kx_n, kl_n, kl_i, kl_r, kl_o, inA_i, inA_s, inA_b, inA_z, inA_l, inA_0, inA_4, inA_5, inA_6, inA_7, inA_8, inA_9, inA_10, al_0, al_1, al_2, al_4, al_5, al_98, bsP_2, bsP_3, wr_same, wr_wr, wr_ne, up_same, up_ne, Nat.reduceAdd, Int.reduceAdd, Int.reduceSub, Int.reduceMul, Int.reduceLT, Int.reduceLE, Int.reduceEq, Int.reduceNeg, Int.reduceToNat, Nat.reduceLT, Nat.reduceLeDiff, Nat.reduceEqDiff, ↓reduceIte, true_and, and_true, not_true_eq_false, not_false_eq_true, eq_self, or_true, true_or, or_false, false_or, if_true, if_false, Int.toNat_natCast, w_ite, Nat.add_zero, reduceCtorEq, ne_eq, Option.isSome]
            exact this
          | some y =>
            have hTn : T (rlz s l) nx = some y.1 := by rw [T_sd, hs]; rfl
            have n0 := n0_sd hs
            unfold chF at hres
            rw [hTn] at hres
            dsimp only at hres
            have s135 := fun {d : Nat} {Q : XO → Hp → Prop} => sp_135 (d := d) (Q := Q) (I := I2) (L := L) (R := R) (G := G) hc hlk (by omega) hT2 hnx hb
            by_cases cm : nx ∈ Ls
            · rw [if_pos cm] at hres
              have := fin I2 Ls nx (Ls.length + 1) nx (hr.trans hr2) hT2 (by omega) hres.symm
              simp (disch := omega) only [q_134_0, q_134_1, q_134_2, q_134_5, q_134_6, q_134_7, q_134_8, q_134_9, q_134_12, q_134_13, q_134_14, q_134_17, q_134_19, q_134_20, q_134_22, q_134_23, q_134_25, q_134_26, q_134_28, q_134_29, q_134_33, q_134_35, q_134_38, q_134_40, q_134_41, q_134_44, q_134_46, q_134_48, q_134_51, q_134_54, q_134_55, q_134_57, q_134_59, q_134_62, q_134_65, q_134_67, q_134_69, q_134_72, q_134_73, q_134_76, q_134_78, q_134_80, q_134_81, q_134_83, q_134_84, q_134_85, q_134_87, q_134_89, q_134_92, q_134_94, q_134_97, q_134_99, q_134_102, q_134_106, q_134_132, q_134_134, q_134_135, q_134_137, q_134_140, q_134_142, q_134_144, q_134_147, q_134_148, q_134_151, q_134_153, q_134_154, q_134_155, q_134_156, q_134_159, q_134_160, q_134_161, q_134_163, q_134_e, va_rf_s, bz_0, bz_1, bz_ok, bb_ok, Nat.add_assoc, w_lt, w_add, w_sub, w_mul, w_div, em_def, w_eq, w_inT, ↓ilt_t, ↓ilt_f, ↓ieq_t, ↓ieq_f, ntT, w_b, w_ix, kx_v, kx_n, kl_n, kl_i, kl_r, kl_o, inA_i, inA_s, inA_b, inA_z, inA_l, inA_0, inA_4, inA_5, inA_6, inA_7, inA_8, inA_9, inA_10, al_0, al_1, al_2, al_4, al_5, al_98, bsP_2, bsP_3, wr_same, wr_wr, wr_ne, up_same, up_ne, Nat.reduceAdd, Int.reduceAdd, Int.reduceSub, Int.reduceMul, Int.reduceLT, Int.reduceLE, Int.reduceEq, Int.reduceNeg, Int.reduceToNat, Nat.reduceLT, Nat.reduceLeDiff, Nat.reduceEqDiff, ↓reduceIte, true_and, and_true, not_true_eq_false, not_false_eq_true, eq_self, or_true, true_or, or_false, false_or, if_true, if_false, Int.toNat_natCast, w_ite, Nat.add_zero, reduceCtorEq, ne_eq, Option.isSome, s135, cm, decide_true]
              rw [q_134_31]
              simp (disch := omega) only [q_134_0, q_134_1, q_134_2, q_134_5, q_134_6, q_134_7, q_134_8, q_134_9, q_134_12, q_134_13, q_134_14, q_134_17, q_134_19, q_134_20, q_134_22, q_134_23, q_134_25, q_134_26, q_134_28, q_134_29, q_134_33, q_134_35, q_134_38, q_134_40, q_134_41, q_134_44, q_134_46, q_134_48, q_134_51, q_134_54, q_134_55, q_134_57, q_134_59, q_134_62, q_134_65, q_134_67, q_134_69, q_134_72, q_134_73, q_134_76, q_134_78, q_134_80, q_134_81, q_134_83, q_134_84, q_134_85, q_134_87, q_134_89, q_134_92, q_134_94, q_134_97, q_134_99, q_134_102, q_134_106, q_134_132, q_134_134, q_134_135, q_134_137, q_134_140, q_134_142, q_134_144, q_134_147, q_134_148, q_134_151, q_134_153, q_134_154, q_134_155, q_134_156, q_134_159, q_134_160, q_134_161, q_134_163, q_134_e, va_rf_s, bz_0, bz_1, bz_ok, bb_ok, Nat.add_assoc, w_lt, w_add, w_sub, w_mul, w_div, em_def, w_eq, w_inT, ↓ilt_t, ↓ilt_f, ↓ieq_t, ↓ieq_f, ntT, w_b, w_ix, kx_v, kx_n, kl_n, kl_i, kl_r, kl_o, inA_i, inA_s, inA_b, inA_z, inA_l, inA_0, inA_4, inA_5, inA_6, inA_7, inA_8, inA_9, inA_10, al_0, al_1, al_2, al_4, al_5, al_98, bsP_2, bsP_3, wr_same, wr_wr, wr_ne, up_same, up_ne, Nat.reduceAdd, Int.reduceAdd, Int.reduceSub, Int.reduceMul, Int.reduceLT, Int.reduceLE, Int.reduceEq, Int.reduceNeg, Int.reduceToNat, Nat.reduceLT, Nat.reduceLeDiff, Nat.reduceEqDiff, ↓reduceIte, true_and, and_true, not_true_eq_false, not_false_eq_true, eq_self, or_true, true_or, or_false, false_or, if_true, if_false, Int.toNat_natCast, w_ite, Nat.add_zero, reduceCtorEq, ne_eq]
              exact ⟨hc, by split <;> exact this⟩
            · rw [if_neg cm] at hres
              have hsd : Sd I2 (k + 1) nx y.1 := (hk2 n0.1 n0.2).Sd hp2.2.2.1 g.ok n0.1 hTn
              have hnl := nlet_bd y.1
              have hyl := hsd.2.2.1
              -- the link is kept
              have hI3 : ∀ a, a ≠ c + 120 → wr I2 (c + 120) (up (I2 (c + 120)) Ls.length (w nx)) a = I2 a := fun a ha => wr_ne ha
              have hT3 : Txt (wr I2 (c + 120) (up (I2 (c + 120)) Ls.length (w nx)) (c + 120)) 0 (Ls ++ [nx]) := by
                rw [wr_same]
                have := Txt_snoc (x := nx) hT2
                rw [Nat.zero_add] at this
                exact this
              have hsd3 : Sd (wr I2 (c + 120) (up (I2 (c + 120)) Ls.length (w nx))) (k + 1) nx y.1 := hsd.congr (hI3 _ (by omega)) (hI3 _ (by omega)) (hI3 _ (by omega))
              have s38 := fun {d : Nat} {Q : XO → Hp → Prop} => sp_38 (d := d) (Q := Q) (L := L) (R := R) (G := G) hv.2.1 hnx.1 hnx.2 hsd3
              simp only [Nat.add_assoc, Nat.reduceAdd] at s38
              have h2 := hr2.cr h1
              have hr3 : Rem S I2 L R c s (wr I2 (c + 120) (up (I2 (c + 120)) Ls.length (w nx))) L := h2.rk (fun a ha => ⟨hI3 a (by omega), rfl⟩) (fun l' hl' a a1 a2 => hI3 a (by omega)) (fun l' hl' j hj => by rw [hI3 _ (by omega)])
              have ih' := ih (Ls ++ [nx]) (nlet y.1) _ (by rw [List.length_append, List.length_cons, List.length_nil]; omega) ((hr.trans hr2).trans hr3) hT3 (fun z hz => by
                rcases List.mem_append.mp hz with hz | hz
                · exact hb z hz
                · rw [List.mem_singleton.mp hz]; exact hnx) (by constructor <;> omega) hres
              rw [List.length_append, List.length_cons, List.length_nil] at ih'
              simp only [Int.natCast_add, Int.natCast_one, Nat.zero_add] at ih'
              simp (disch := omega) only [q_134_0, q_134_1, q_134_2, q_134_5, q_134_6, q_134_7, q_134_8, q_134_9, q_134_12, q_134_13, q_134_14, q_134_17, q_134_19, q_134_20, q_134_22, q_134_23, q_134_25, q_134_26, q_134_28, q_134_29, q_134_33, q_134_35, q_134_38, q_134_40, q_134_41, q_134_44, q_134_46, q_134_48, q_134_51, q_134_54, q_134_55, q_134_57, q_134_59, q_134_62, q_134_65, q_134_67, q_134_69, q_134_72, q_134_73, q_134_76, q_134_78, q_134_80, q_134_81, q_134_83, q_134_84, q_134_85, q_134_87, q_134_89, q_134_92, q_134_94, q_134_97, q_134_99, q_134_102, q_134_106, q_134_132, q_134_134, q_134_135, q_134_137, q_134_140, q_134_142, q_134_144, q_134_147, q_134_148, q_134_151, q_134_153, q_134_154, q_134_155, q_134_156, q_134_159, q_134_160, q_134_161, q_134_163, q_134_e, va_rf_s, bz_0, bz_1, bz_ok, bb_ok, Nat.add_assoc, w_lt, w_add, w_sub, w_mul, w_div, em_def, w_eq, w_inT, ↓ilt_t, ↓ilt_f, ↓ieq_t, ↓ieq_f, ntT, w_b, w_ix, kx_v, kx_n, kl_n, kl_i, kl_r, kl_o, inA_i, inA_s, inA_b, inA_z, inA_l, inA_0, inA_4, inA_5, inA_6, inA_7, inA_8, inA_9, inA_10, al_0, al_1, al_2, al_4, al_5, al_98, bsP_2, bsP_3, wr_same, wr_wr, wr_ne, up_same, up_ne, Nat.reduceAdd, Int.reduceAdd, Int.reduceSub, Int.reduceMul, Int.reduceLT, Int.reduceLE, Int.reduceEq, Int.reduceNeg, Int.reduceToNat, Nat.reduceLT, Nat.reduceLeDiff, Nat.reduceEqDiff, ↓reduceIte, true_and, and_true, not_true_eq_false, not_false_eq_true, eq_self, or_true, true_or, or_false, false_or, if_true, if_false, Int.toNat_natCast, w_ite, Nat.add_zero, reduceCtorEq, ne_eq, Option.isSome, s135, cm, decide_false, hc, hlk, hv0, hm0, s38]
              exact ih'
      simp (disch := omega) only [q_134_0, q_134_1, q_134_2, q_134_5, q_134_6, q_134_7, q_134_8, q_134_9, q_134_12, q_134_13, q_134_14, q_134_17, q_134_19, q_134_20, q_134_22, q_134_23, q_134_25, q_134_26, q_134_28, q_134_29, q_134_33, q_134_35, q_134_38, q_134_40, q_134_41, q_134_44, q_134_46, q_134_48, q_134_51, q_134_54, q_134_55, q_134_57, q_134_59, q_134_62, q_134_65, q_134_67, q_134_69, q_134_72, q_134_73, q_134_76, q_134_78, q_134_80, q_134_81, q_134_83, q_134_84, q_134_85, q_134_87, q_134_89, q_134_92, q_134_94, q_134_97, q_134_99, q_134_102, q_134_105, q_134_106, q_134_132, q_134_134, q_134_135, q_134_137, q_134_140, q_134_142, q_134_144, q_134_147, q_134_148, q_134_151, q_134_153, q_134_154, q_134_155, q_134_156, q_134_159, q_134_160, q_134_161, q_134_163, q_134_e, va_rf_s, bz_0, bz_1, bz_ok, bb_ok, Nat.add_assoc, w_lt, w_add, w_sub, w_mul, w_div, em_def, w_eq, w_inT, ↓ilt_t, ↓ilt_f, ↓ieq_t, ↓ieq_f, ntT, w_b, w_ix, kx_v, kx_n, kl_n, kl_i, kl_r, kl_o, inA_i, inA_s, inA_b, inA_z, inA_l, inA_0, inA_4, inA_5, inA_6, inA_7, inA_8, inA_9, inA_10, al_0, al_1, al_2, al_4, al_5, al_98, bsP_2, bsP_3, wr_same, wr_wr, wr_ne, up_same, up_ne, Nat.reduceAdd, Int.reduceAdd, Int.reduceSub, Int.reduceMul, Int.reduceLT, Int.reduceLE, Int.reduceEq, Int.reduceNeg, Int.reduceToNat, Nat.reduceLT, Nat.reduceLeDiff, Nat.reduceEqDiff, ↓reduceIte, true_and, and_true, not_true_eq_false, not_false_eq_true, eq_self, or_true, true_or, or_false, false_or, if_true, if_false, Int.toNat_natCast, w_ite, Nat.add_zero, reduceCtorEq, ne_eq, hc, p143, s146, p142]
      exact lp 103 [] n I rfl (Rem.refl h) (fun i hi => nomatch hi) (fun y hy => nomatch hy) hn rfl
    · rw [if_neg cx] at hQ
      have s146 := fun {d : Nat} {Q : XO → Hp → Prop} => h.noI (d := d) (Q := Q) hx (y := 0) (z := 2) (by decide) (by decide) cx
      simp (disch := omega) only [q_134_0, q_134_1, q_134_2, q_134_5, q_134_6, q_134_7, q_134_8, q_134_9, q_134_12, q_134_13, q_134_14, q_134_17, q_134_19, q_134_20, q_134_22, q_134_23, q_134_25, q_134_26, q_134_28, q_134_29, q_134_33, q_134_35, q_134_38, q_134_40, q_134_41, q_134_44, q_134_46, q_134_48, q_134_51, q_134_54, q_134_55, q_134_57, q_134_59, q_134_62, q_134_65, q_134_67, q_134_69, q_134_72, q_134_73, q_134_76, q_134_78, q_134_80, q_134_81, q_134_83, q_134_84, q_134_85, q_134_87, q_134_89, q_134_92, q_134_94, q_134_97, q_134_99, q_134_102, q_134_105, q_134_106, q_134_132, q_134_134, q_134_135, q_134_137, q_134_140, q_134_142, q_134_144, q_134_147, q_134_148, q_134_151, q_134_153, q_134_154, q_134_155, q_134_156, q_134_159, q_134_160, q_134_161, q_134_163, q_134_e, va_rf_s, bz_0, bz_1, bz_ok, bb_ok, Nat.add_assoc, w_lt, w_add, w_sub, w_mul, w_div, em_def, w_eq, w_inT, ↓ilt_t, ↓ilt_f, ↓ieq_t, ↓ieq_f, ntT, w_b, w_ix, kx_v, kx_n, kl_n, kl_i, kl_r, kl_o, inA_i, inA_s, inA_b, inA_z, inA_l, inA_0, inA_4, inA_5, inA_6, inA_7, inA_8, inA_9, inA_10, al_0, al_1, al_2, al_4, al_5, al_98, bsP_2, bsP_3, wr_same, wr_wr, wr_ne, up_same, up_ne, Nat.reduceAdd, Int.reduceAdd, Int.reduceSub, Int.reduceMul, Int.reduceLT, Int.reduceLE, Int.reduceEq, Int.reduceNeg, Int.reduceToNat, Nat.reduceLT, Nat.reduceLeDiff, Nat.reduceEqDiff, ↓reduceIte, true_and, and_true, not_true_eq_false, not_false_eq_true, eq_self, or_true, true_or, or_false, false_or, if_true, if_false, Int.toNat_natCast, w_ite, Nat.add_zero, reduceCtorEq, ne_eq, hc, p143, s146, kx_t hk]
      exact CK.wro h (Rem.refl h) hf.2 hQ
  · rw [if_neg cl] at hQ
    have s143 := fun {d : Nat} {Q : XO → Hp → Prop} => h.noL (d := d) (Q := Q) hl cl
    simp (disch := omega) only [q_134_0, q_134_1, q_134_2, q_134_5, q_134_6, q_134_7, q_134_8, q_134_9, q_134_12, q_134_13, q_134_14, q_134_17, q_134_19, q_134_20, q_134_22, q_134_23, q_134_25, q_134_26, q_134_28, q_134_29, q_134_33, q_134_35, q_134_38, q_134_40, q_134_41, q_134_44, q_134_46, q_134_48, q_134_51, q_134_54, q_134_55, q_134_57, q_134_59, q_134_62, q_134_65, q_134_67, q_134_69, q_134_72, q_134_73, q_134_76, q_134_78, q_134_80, q_134_81, q_134_83, q_134_84, q_134_85, q_134_87, q_134_89, q_134_92, q_134_94, q_134_97, q_134_99, q_134_102, q_134_105, q_134_106, q_134_132, q_134_134, q_134_135, q_134_137, q_134_140, q_134_142, q_134_144, q_134_147, q_134_148, q_134_151, q_134_153, q_134_154, q_134_155, q_134_156, q_134_159, q_134_160, q_134_161, q_134_163, q_134_e, va_rf_s, bz_0, bz_1, bz_ok, bb_ok, Nat.add_assoc, w_lt, w_add, w_sub, w_mul, w_div, em_def, w_eq, w_inT, ↓ilt_t, ↓ilt_f, ↓ieq_t, ↓ieq_f, ntT, w_b, w_ix, kx_v, kx_n, kl_n, kl_i, kl_r, kl_o, inA_i, inA_s, inA_b, inA_z, inA_l, inA_0, inA_4, inA_5, inA_6, inA_7, inA_8, inA_9, inA_10, al_0, al_1, al_2, al_4, al_5, al_98, bsP_2, bsP_3, wr_same, wr_wr, wr_ne, up_same, up_ne, Nat.reduceAdd, Int.reduceAdd, Int.reduceSub, Int.reduceMul, Int.reduceLT, Int.reduceLE, Int.reduceEq, Int.reduceNeg, Int.reduceToNat, Nat.reduceLT, Nat.reduceLeDiff, Nat.reduceEqDiff, ↓reduceIte, true_and, and_true, not_true_eq_false, not_false_eq_true, eq_self, or_true, true_or, or_false, false_or, if_true, if_false, Int.toNat_natCast, w_ite, Nat.add_zero, reduceCtorEq, ne_eq, hc, s143, kx_t hk]
    exact CK.mis h (Rem.refl h) hf.1 hQ
end

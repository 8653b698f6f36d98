/-! limit, drop, rise, undo, feed -/
def rLimit (s : St) (v : Int) : Res := if 1 ≤ v ∧ v ≤ 1000 then (.inl (s.2.1.1 : Int), setB (hkeep s) (v.toNat, s.2.1.2)) else rWron s
def rDrop (s : St) (l q : Int) : Res := if isRl s l q then (.inl ((((rlz s l).eraseIdx q.toNat).length : Nat) : Int), setB (hkeep s) (setL s.2.1 l.toNat ((rlz s l).eraseIdx q.toNat))) else rMiss s
def swp (rs : List Rl) (q : Nat) : List Rl := (rs.set q (rs.getD (q - 1) rd0)).set (q - 1) (rs.getD q rd0)
def rRise (s : St) (l q : Int) : Res := if isRl s l q then (if 1 ≤ q then (.inl ((cnt (fun n => !decide (T (swp (rlz s l) q.toNat) n = T (rlz s l) n)) (s.2.1.1 + 1) : Nat) : Int), setB (hkeep s) (setL s.2.1 l.toNat (swp (rlz s l) q.toNat))) else rWron s) else rMiss s
def rUndo (s : St) : Res := match s.2.2.1 with
  | [] => (.inl (-1), s)
  | b :: r => (.inl (r.length : Int), (s.1, b, r, s.2.2.2.1, s.2.2.2.2.1, s.2.2.2.2.2))
def rFeed (s : St) (a b c d e : Int) : Res := if 380 < s.1.length then (.inl (-1), s) else (.inl ((s.1.length : Int) + 20), (s.1 ++ (b4 a ++ b4 b ++ b4 c ++ b4 d ++ b4 e), s.2.1, s.2.2.1, s.2.2.2.1, s.2.2.2.2.1, s.2.2.2.2.2))
theorem swp_len {rs : List Rl} {q : Nat} : (swp rs q).length = rs.length := by unfold swp; rw [List.length_set, List.length_set]
theorem swp_get {rs : List Rl} {q i : Nat} (hq : q < rs.length) (h1 : 1 ≤ q) : (swp rs q).getD i rd0 = if i = q - 1 then rs.getD q rd0 else if i = q then rs.getD (q - 1) rd0 else rs.getD i rd0 := by
  unfold swp
  rw [List.getD_eq_getElem?_getD, List.getElem?_set]
  by_cases c1 : q - 1 = i
  · rw [if_pos c1, if_pos c1.symm, if_pos (by rw [List.length_set]; omega)]
    rfl
  · rw [if_neg c1, if_neg (fun e => c1 e.symm), List.getElem?_set]
    by_cases c2 : q = i
    · rw [if_pos c2, if_pos c2.symm, if_pos hq]; rfl
    · rw [if_neg c2, if_neg (fun e => c2 e.symm), ← List.getD_eq_getElem?_getD]
theorem ers_get {rs : List Rl} {q i : Nat} : (rs.eraseIdx q).getD i rd0 = if i < q then rs.getD i rd0 else rs.getD (i + 1) rd0 := by
  rw [List.getD_eq_getElem?_getD, List.getElem?_eraseIdx]
  split <;> rw [List.getD_eq_getElem?_getD]
theorem setL_self {k : Bk} {l : Nat} : setL k l (k.2 l) = k := by
  unfold setL
  refine Prod.ext rfl (funext fun m => ?_)
  dsimp only
  split
  · rename_i e; rw [e]
  · rfl
section
variable {d : Nat} {Q : XO → Hp → Prop} {S : SH} {I : MI} {L : ML} {R : MR} {G : MG} {A : Hp}
variable {c lo : Nat} {s : St} {ρ : Nat → List Rl}
theorem BookIs.setL {I' : MI} {R' : MR} {b l : Nat} {k : Bk} {rs : List Rl} (h : BookIs S I L R b lo k) (hl : l < 2) (e0 : I' b 2 = I b 2) (eo : ∀ m, m < 2 → m ≠ l → I' (b + 2) m = I (b + 2) m ∧ ∀ i, i < 30 → R' (b + 1) (m * 30 + i) = R (b + 1) (m * 30 + i)) (ef : ∀ y, lo ≤ y → I' y = I y) (hn : BkL S I' L R' b lo l rs) : BookIs S I' L R' b lo (setL k l rs) := by
  refine ⟨by rw [e0]; exact h.1, h.2.1, h.2.2.1, fun m hm => ?_⟩
  show BkL S I' L R' b lo m (if m = l then rs else k.2 m)
  by_cases e : m = l
  · subst e; rw [if_pos rfl]; exact hn
  · rw [if_neg e]
    have hb := h.2.2.2 m hm
    obtain ⟨e1, e2⟩ := eo m hm e
    have h30 := hb.2.1
    refine ⟨e1.trans hb.1, hb.2.1, fun i hi => ?_⟩
    obtain ⟨r, q1, q2, q3⟩ := hb.2.2 i hi
    exact ⟨r, by rw [e2 i (by omega)]; exact q1, q2, q3.keep (fun y y1 y2 => ⟨rfl, ef y (by omega), rfl⟩)⟩
theorem CP.book {I' : MI} {R' : MR} {k : Bk} (h : CP S I L R G c lo s ρ) (hf : ∀ a, a ≠ c + 3 → a ≠ c + 5 → I' a = I a) (hfR : ∀ a, a ≠ c + 4 → R' a = R a) (hB : BookIs S I' L R' (c + 3) lo k) (hr : Ref2 S R' G (c + 4) 60 lo) : CP S I' L R' G c lo (setB s k) ρ := by
  obtain ⟨a1, a2, a3, a4, a5, a6, ⟨r1, r2, r3, r4, r5⟩, a8, a9⟩ := h
  have hRF : RF S I L G lo S I' L := fun y y1 y2 => ⟨rfl, hf y (by omega) (by omega), rfl⟩
  refine ⟨a1.keep (G := G) (by omega) (fun _ _ => rfl) (hfR _ (by omega)), a2, a3, ⟨⟨by rw [hf _ (by omega) (by omega)]; exact a4.1.1, by rw [hf _ (by omega) (by omega)]; exact a4.1.2⟩, a4.2⟩, hB, a6.keep r2 hRF (fun a h1 h2 => ⟨hf a (by omega) (by omega), hfR a (by omega)⟩), ⟨hr, fun j hj => (r2 j hj).keep (fun _ _ => rfl) (Nat.le_refl _) (hfR _ (by omega)), r3.keep (fun _ _ => rfl) (Nat.le_refl _) (hfR _ (by omega)), r4.keep (fun _ _ => rfl) (Nat.le_refl _) (hfR _ (by omega)), r5.keep (fun _ _ => rfl) (Nat.le_refl _) (hfR _ (by omega))⟩, fun l hl => ?_, ?_⟩
  · refine (a8 l hl).keep2 (lo := lo) (G := G) ?_ hRF (fun a h1 h2 => hf a (by omega) (by omega)) (hfR _ (by omega))
    have : l = 0 ∨ l = 1 := by omega
    rcases this with rfl | rfl
    · exact r3
    · exact r4
  · rw [hf c (by omega) (by omega)]; exact a9
theorem sp_110 {v : Int} (h : CR S I L R G c lo s) (hf : few s) (hv : B32 v) (hQ : CK S I L R G c lo Q (outX (rLimit s v).1) (rLimit s v).2) : XC (d + 5) 110 [.ref c, .int (w v)] (mk S I L R G) Q := by
  have hc := h.1.1
  have hk : t_han 110 = [] := rfl
  have hB0 := h.1.2.2.1.1
  have hH0 := h.1.2.2.2.1.1
  obtain ⟨b1, b2, b3, b4⟩ := h.bk
  unfold rLimit at hQ
  by_cases cv : 1 ≤ v ∧ v ≤ 1000
  · rw [if_pos cv] at hQ
    have s146 := fun {d : Nat} {Q : XO → Hp → Prop} => h.in (d := d) (Q := Q) hv (y := 1) (z := 1000) (by decide) (by decide) cv
    simp (disch := omega) only [q_110_0, q_110_1, q_110_2, q_110_3, q_110_6, q_110_9, q_110_10, q_110_13, q_110_16, q_110_17, q_110_18, q_110_21, q_110_22, q_110_25, q_110_28, q_110_29, q_110_32, q_110_33, q_110_36, q_110_37, q_110_e, va_rf_s, bz_0, bz_1, bz_ok, bb_ok, Nat.add_assoc, w_lt, w_add, w_sub, w_mul, w_div, em_def, w_eq, w_inT, ↓ilt_t, ↓ilt_f, ↓ieq_t, ↓ieq_f, ntT, w_b, w_ix, kx_v, kx_n, kl_n, kl_i, kl_r, kl_o, inA_i, inA_s, inA_b, inA_z, inA_l, inA_0, inA_4, inA_5, inA_6, inA_7, inA_8, inA_9, inA_10, al_0, al_1, al_2, al_4, al_5, al_98, bsP_2, bsP_3, wr_same, wr_wr, wr_ne, up_same, up_ne, Nat.reduceAdd, Int.reduceAdd, Int.reduceSub, Int.reduceMul, Int.reduceLT, Int.reduceLE, Int.reduceEq, Int.reduceNeg, Int.reduceToNat, Nat.reduceLT, Nat.reduceLeDiff, Nat.reduceEqDiff, ↓reduceIte, true_and, and_true, not_true_eq_false, not_false_eq_true, eq_self, or_true, true_or, or_false, false_or, if_true, if_false, Int.toNat_natCast, w_ite, Nat.add_zero, reduceCtorEq, ne_eq, hc, s146, hB0, b1, hH0]
    refine h.cp.keepH (fun I1 R1 h1 hf1 => ?_)
    simp (disch := omega) only [q_110_0, q_110_1, q_110_2, q_110_3, q_110_6, q_110_9, q_110_10, q_110_13, q_110_16, q_110_17, q_110_18, q_110_21, q_110_22, q_110_25, q_110_28, q_110_29, q_110_32, q_110_33, q_110_36, q_110_37, q_110_e, va_rf_s, bz_0, bz_1, bz_ok, bb_ok, Nat.add_assoc, w_lt, w_add, w_sub, w_mul, w_div, em_def, w_eq, w_inT, ↓ilt_t, ↓ilt_f, ↓ieq_t, ↓ieq_f, ntT, w_b, w_ix, kx_v, kx_n, kl_n, kl_i, kl_r, kl_o, inA_i, inA_s, inA_b, inA_z, inA_l, inA_0, inA_4, inA_5, inA_6, inA_7, inA_8, inA_9, inA_10, al_0, al_1, al_2, al_4, al_5, al_98, bsP_2, bsP_3, wr_same, wr_wr, wr_ne, up_same, up_ne, Nat.reduceAdd, Int.reduceAdd, Int.reduceSub, Int.reduceMul, Int.reduceLT, Int.reduceLE, Int.reduceEq, Int.reduceNeg, Int.reduceToNat, Nat.reduceLT, Nat.reduceLeDiff, Nat.reduceEqDiff, ↓reduceIte, true_and, and_true, not_true_eq_false, not_false_eq_true, eq_self, or_true, true_or, or_false, false_or, if_true, if_false, Int.toNat_natCast, w_ite, Nat.add_zero, reduceCtorEq, ne_eq, hc, hB0]
    have hlo := h1.2.1
    have g1 : ∀ a, a ≠ c + 3 → wr I1 (c + 3) (up (I1 (c + 3)) 2 (w v)) a = I1 a := fun a ha => wr_ne ha
    have g2 : wr I1 (c + 3) (up (I1 (c + 3)) 2 (w v)) (c + 3) 2 = w v := by rw [wr_same, up_same]
    generalize wr I1 (c + 3) (up (I1 (c + 3)) 2 (w v)) = I' at g1 g2 ⊢
    have hb1 := h1.2.2.2.2.1
    have h2 : CP S I' L R1 G c lo (setB (hkeep s) (v.toNat, s.2.1.2)) s.2.1.2 := by
      refine h1.book (fun a a1 a2 => g1 a a1) (fun _ _ => rfl) ⟨?_, ?_, ?_, fun l hl => ?_⟩ h1.2.2.2.2.2.2.1.1
      · rw [g2]; congr 1; show v = ((v.toNat : Nat) : Int); omega
      · show 1 ≤ v.toNat; omega
      · show v.toNat ≤ 1000; omega
      · exact (hb1.2.2.2 l hl).keep (by rw [g1 _ (by omega)]) (fun _ _ => rfl) (fun i r hi hr y y1 y2 => ⟨rfl, g1 y (by
          obtain ⟨r', q1, q2, -⟩ := (hb1.2.2.2 l hl).2.2 i hi
          rw [hr] at q1; cases q1; omega), rfl⟩)
    exact hQ S I' L R1 G (h2.cr (fun _ _ => rfl)) ⟨fun _ _ => rfl, fun a _ ha => ⟨by rw [g1 a (by omega), (hf1 a (by omega)).1], rfl, (hf1 a (by omega)).2⟩, Nat.le_refl _, Nat.le_add_right _ _, Nat.le_refl _, Nat.le_add_right _ _, rfl⟩
  · rw [if_neg cv] at hQ
    have s146 := fun {d : Nat} {Q : XO → Hp → Prop} => h.noI (d := d) (Q := Q) hv (y := 1) (z := 1000) (by decide) (by decide) cv
    simp (disch := omega) only [q_110_0, q_110_1, q_110_2, q_110_3, q_110_6, q_110_9, q_110_10, q_110_13, q_110_16, q_110_17, q_110_18, q_110_21, q_110_22, q_110_25, q_110_28, q_110_29, q_110_32, q_110_33, q_110_36, q_110_37, q_110_e, va_rf_s, bz_0, bz_1, bz_ok, bb_ok, Nat.add_assoc, w_lt, w_add, w_sub, w_mul, w_div, em_def, w_eq, w_inT, ↓ilt_t, ↓ilt_f, ↓ieq_t, ↓ieq_f, ntT, w_b, w_ix, kx_v, kx_n, kl_n, kl_i, kl_r, kl_o, inA_i, inA_s, inA_b, inA_z, inA_l, inA_0, inA_4, inA_5, inA_6, inA_7, inA_8, inA_9, inA_10, al_0, al_1, al_2, al_4, al_5, al_98, bsP_2, bsP_3, wr_same, wr_wr, wr_ne, up_same, up_ne, Nat.reduceAdd, Int.reduceAdd, Int.reduceSub, Int.reduceMul, Int.reduceLT, Int.reduceLE, Int.reduceEq, Int.reduceNeg, Int.reduceToNat, Nat.reduceLT, Nat.reduceLeDiff, Nat.reduceEqDiff, ↓reduceIte, true_and, and_true, not_true_eq_false, not_false_eq_true, eq_self, or_true, true_or, or_false, false_or, if_true, if_false, Int.toNat_natCast, w_ite, Nat.add_zero, reduceCtorEq, ne_eq, hc, s146, kx_t hk]
    exact CK.wro h (Rem.refl h) hf.2 hQ
theorem sp_111 {l q : Int} (h : CR S I L R G c lo s) (hf : few s) (hl : B32 l) (hq : B32 q) (hQ : CK S I L R G c lo Q (outX (rDrop s l q).1) (rDrop s l q).2) : XC (d + 6) 111 [.ref c, .int (w l), .int (w q)] (mk S I L R G) Q := by
  have hc := h.1.1
  have hk : t_han 111 = [] := rfl
  have hB := h.1.2.2.1
  have hB0 := hB.1
  have hH0 := h.1.2.2.2.1.1
  unfold rDrop at hQ
  by_cases cr : isRl s l q
  · rw [if_pos cr] at hQ
    have hm : l.toNat < 2 := by omega
    have el : l = (l.toNat : Int) := by omega
    have eq : q = (q.toNat : Int) := by omega
    have hrl : rlz s l = s.2.1.2 l.toNat := rfl
    obtain ⟨r, r1, r2, r3⟩ := h.rule cr
    have s144 := fun {d : Nat} {Q : XO → Hp → Prop} => sp_144 (d := d) (Q := Q) h cr r1
    simp (disch := omega) only [q_111_0, q_111_1, q_111_2, q_111_3, q_111_6, q_111_7, q_111_8, q_111_11, q_111_12, q_111_15, q_111_18, q_111_19, q_111_22, q_111_23, q_111_24, q_111_27, q_111_28, q_111_29, q_111_32, q_111_33, q_111_36, q_111_37, q_111_40, q_111_e, va_rf_s, bz_0, bz_1, bz_ok, bb_ok, Nat.add_assoc, w_lt, w_add, w_sub, w_mul, w_div, em_def, w_eq, w_inT, ↓ilt_t, ↓ilt_f, ↓ieq_t, ↓ieq_f, ntT, w_b, w_ix, kx_v, kx_n, kl_n, kl_i, kl_r, kl_o, inA_i, inA_s, inA_b, inA_z, inA_l, inA_0, inA_4, inA_5, inA_6, inA_7, inA_8, inA_9, inA_10, al_0, al_1, al_2, al_4, al_5, al_98, bsP_2, bsP_3, wr_same, wr_wr, wr_ne, up_same, up_ne, Nat.reduceAdd, Int.reduceAdd, Int.reduceSub, Int.reduceMul, Int.reduceLT, Int.reduceLE, Int.reduceEq, Int.reduceNeg, Int.reduceToNat, Nat.reduceLT, Nat.reduceLeDiff, Nat.reduceEqDiff, ↓reduceIte, true_and, and_true, not_true_eq_false, not_false_eq_true, eq_self, or_true, true_or, or_false, false_or, if_true, if_false, Int.toNat_natCast, w_ite, Nat.add_zero, reduceCtorEq, ne_eq, hc, s144, hH0]
    refine h.cp.keepH (fun I1 R1 h1 hf1 => ?_)
    simp (disch := omega) only [q_111_0, q_111_1, q_111_2, q_111_3, q_111_6, q_111_7, q_111_8, q_111_11, q_111_12, q_111_15, q_111_18, q_111_19, q_111_22, q_111_23, q_111_24, q_111_27, q_111_28, q_111_29, q_111_32, q_111_33, q_111_36, q_111_37, q_111_40, q_111_e, va_rf_s, bz_0, bz_1, bz_ok, bb_ok, Nat.add_assoc, w_lt, w_add, w_sub, w_mul, w_div, em_def, w_eq, w_inT, ↓ilt_t, ↓ilt_f, ↓ieq_t, ↓ieq_f, ntT, w_b, w_ix, kx_v, kx_n, kl_n, kl_i, kl_r, kl_o, inA_i, inA_s, inA_b, inA_z, inA_l, inA_0, inA_4, inA_5, inA_6, inA_7, inA_8, inA_9, inA_10, al_0, al_1, al_2, al_4, al_5, al_98, bsP_2, bsP_3, wr_same, wr_wr, wr_ne, up_same, up_ne, Nat.reduceAdd, Int.reduceAdd, Int.reduceSub, Int.reduceMul, Int.reduceLT, Int.reduceLE, Int.reduceEq, Int.reduceNeg, Int.reduceToNat, Nat.reduceLT, Nat.reduceLeDiff, Nat.reduceEqDiff, ↓reduceIte, true_and, and_true, not_true_eq_false, not_false_eq_true, eq_self, or_true, true_or, or_false, false_or, if_true, if_false, Int.toNat_natCast, w_ite, Nat.add_zero, reduceCtorEq, ne_eq, hc, hB0]
    have hlo := h1.2.1
    have hb1 := h1.2.2.2.2.1
    have hr1 := h1.2.2.2.2.2.2.1.1
    have hbl : BkL S I1 L R1 (c + 3) lo l.toNat (s.2.1.2 l.toNat) := hb1.2.2.2 l.toNat hm
    have hqn : q.toNat < (s.2.1.2 l.toNat).length := by have := cr.2; rw [hrl] at this; omega
    have hz : I1 (c + 3 + 2) l.toNat = w (s.2.1.2 l.toNat).length := hbl.1
    have h30 : (s.2.1.2 l.toNat).length ≤ 30 := hbl.2.1
    have s5 := fun {d : Nat} {Q : XO → Hp → Prop} => sp_5 (d := d) (Q := Q) (L := L) (G := G) hB hm hz h30 hqn hr1.ok
    rw [← el, ← eq] at s5
    refine s5 (fun f hfe => ?_)
    have g1 : ∀ a, a ≠ c + 3 + 2 → wr I1 (c + 3 + 2) (up (I1 (c + 3 + 2)) l.toNat (w ((s.2.1.2 l.toNat).length - 1))) a = I1 a := fun a ha => wr_ne ha
    have g2 : wr I1 (c + 3 + 2) (up (I1 (c + 3 + 2)) l.toNat (w ((s.2.1.2 l.toNat).length - 1))) (c + 3 + 2) l.toNat = w ((s.2.1.2 l.toNat).length - 1) := by rw [wr_same, up_same]
    have g3 : ∀ m, m ≠ l.toNat → wr I1 (c + 3 + 2) (up (I1 (c + 3 + 2)) l.toNat (w ((s.2.1.2 l.toNat).length - 1))) (c + 3 + 2) m = I1 (c + 3 + 2) m := fun m hm => by rw [wr_same, up_ne hm]
    generalize wr I1 (c + 3 + 2) (up (I1 (c + 3 + 2)) l.toNat (w ((s.2.1.2 l.toNat).length - 1))) = I2 at g1 g2 g3 ⊢
    have u1 : ∀ a, a ≠ c + 3 + 1 → wr R1 (c + 3 + 1) f a = R1 a := fun a ha => wr_ne ha
    have u2 : wr R1 (c + 3 + 1) f (c + 3 + 1) = f := wr_same
    generalize wr R1 (c + 3 + 1) f = R2 at u1 u2 ⊢
    have hlen : ((s.2.1.2 l.toNat).eraseIdx q.toNat).length = (s.2.1.2 l.toNat).length - 1 := List.length_eraseIdx_of_lt hqn
    have h2 : CP S I2 L R2 G c lo (setB (hkeep s) (setL s.2.1 l.toNat ((s.2.1.2 l.toNat).eraseIdx q.toNat))) s.2.1.2 := by
      refine h1.book (fun a a1 a2 => g1 a (by omega)) (fun a ha => u1 a (by omega)) (hb1.setL hm (by rw [g1 _ (by omega)]) (fun m hm2 hml => ⟨g3 m hml, fun i hi => by
        rw [u2, hfe, if_neg (by omega)]⟩) (fun y hy => g1 y (by omega)) ⟨?_, by omega, fun i hi => ?_⟩) (fun i hi r' hr' => ?_)
      · rw [g2, hlen]; congr 1; omega
      · rw [u2, hfe, ers_get]
        rw [hlen] at hi
        by_cases c1 : i < q.toNat
        · rw [if_neg (by omega), if_pos c1]
          obtain ⟨r', q1, q2, q3⟩ := hbl.2.2 i (by omega)
          exact ⟨r', q1, q2, q3.keep (fun y y1 y2 => ⟨rfl, g1 y (by omega), rfl⟩)⟩
        · rw [if_pos (by omega), if_neg c1]
          obtain ⟨r', q1, q2, q3⟩ := hbl.2.2 (i + 1) (by omega)
          exact ⟨r', q1, q2, q3.keep (fun y y1 y2 => ⟨rfl, g1 y (by omega), rfl⟩)⟩
      · rw [show c + 4 = c + 3 + 1 from rfl, u2, hfe] at hr'
        split at hr'
        · exact hr1 (i + 1) (by omega) r' hr'
        · exact hr1 i hi r' hr'
    simp (disch := omega) only [q_111_0, q_111_1, q_111_2, q_111_3, q_111_6, q_111_7, q_111_8, q_111_11, q_111_12, q_111_15, q_111_18, q_111_19, q_111_22, q_111_23, q_111_24, q_111_27, q_111_28, q_111_29, q_111_32, q_111_33, q_111_36, q_111_37, q_111_40, q_111_e, va_rf_s, bz_0, bz_1, bz_ok, bb_ok, Nat.add_assoc, w_lt, w_add, w_sub, w_mul, w_div, em_def, w_eq, w_inT, ↓ilt_t, ↓ilt_f, ↓ieq_t, ↓ieq_f, ntT, w_b, w_ix, kx_v, kx_n, kl_n, kl_i, kl_r, kl_o, inA_i, inA_s, inA_b, inA_z, inA_l, inA_0, inA_4, inA_5, inA_6, inA_7, inA_8, inA_9, inA_10, al_0, al_1, al_2, al_4, al_5, al_98, bsP_2, bsP_3, wr_same, wr_wr, wr_ne, up_same, up_ne, Nat.reduceAdd, Int.reduceAdd, Int.reduceSub, Int.reduceMul, Int.reduceLT, Int.reduceLE, Int.reduceEq, Int.reduceNeg, Int.reduceToNat, Nat.reduceLT, Nat.reduceLeDiff, Nat.reduceEqDiff, ↓reduceIte, true_and, and_true, not_true_eq_false, not_false_eq_true, eq_self, or_true, true_or, or_false, false_or, if_true, if_false, Int.toNat_natCast, w_ite, Nat.add_zero, reduceCtorEq, ne_eq, hc]
    have s114 := fun {d : Nat} {Q : XO → Hp → Prop} => sp_114 (d := d) (Q := Q) h2 hm
    rw [← el] at s114
    refine s114 (fun I3 R3 h3 hf3 => ?_)
    have hz3 : I3 (c + 3 + 2) l.toNat = w (((s.2.1.2 l.toNat).eraseIdx q.toNat).length : Nat) := by
      rw [(hf3 _ (by omega)).1, g2, hlen]; congr 1; omega
    have s1 := fun {d : Nat} {Q : XO → Hp → Prop} => sp_1 (d := d) (Q := Q) (I := I3) (L := L) (R := R3) (G := G) hB hm hz3
    rw [← el] at s1
    simp (disch := omega) only [q_111_0, q_111_1, q_111_2, q_111_3, q_111_6, q_111_7, q_111_8, q_111_11, q_111_12, q_111_15, q_111_18, q_111_19, q_111_22, q_111_23, q_111_24, q_111_27, q_111_28, q_111_29, q_111_32, q_111_33, q_111_36, q_111_37, q_111_40, q_111_e, va_rf_s, bz_0, bz_1, bz_ok, bb_ok, Nat.add_assoc, w_lt, w_add, w_sub, w_mul, w_div, em_def, w_eq, w_inT, ↓ilt_t, ↓ilt_f, ↓ieq_t, ↓ieq_f, ntT, w_b, w_ix, kx_v, kx_n, kl_n, kl_i, kl_r, kl_o, inA_i, inA_s, inA_b, inA_z, inA_l, inA_0, inA_4, inA_5, inA_6, inA_7, inA_8, inA_9, inA_10, al_0, al_1, al_2, al_4, al_5, al_98, bsP_2, bsP_3, wr_same, wr_wr, wr_ne, up_same, up_ne, Nat.reduceAdd, Int.reduceAdd, Int.reduceSub, Int.reduceMul, Int.reduceLT, Int.reduceLE, Int.reduceEq, Int.reduceNeg, Int.reduceToNat, Nat.reduceLT, Nat.reduceLeDiff, Nat.reduceEqDiff, ↓reduceIte, true_and, and_true, not_true_eq_false, not_false_eq_true, eq_self, or_true, true_or, or_false, false_or, if_true, if_false, Int.toNat_natCast, w_ite, Nat.add_zero, reduceCtorEq, ne_eq, hc, hB0, s1]
    refine hQ S I3 L R3 G (h3.cr (fun m hm2 => ?_)) ⟨fun _ _ => rfl, fun a _ ha => ⟨by rw [(hf3 a (by omega)).1, g1 a (by omega), (hf1 a (by omega)).1], rfl, by rw [(hf3 a (by omega)).2, u1 a (by omega), (hf1 a (by omega)).2]⟩, Nat.le_refl _, Nat.le_add_right _ _, Nat.le_refl _, Nat.le_add_right _ _, rfl⟩
    show (if m = l.toNat then (setL s.2.1 l.toNat ((s.2.1.2 l.toNat).eraseIdx q.toNat)).2 l.toNat else s.2.1.2 m) = (setL s.2.1 l.toNat ((s.2.1.2 l.toNat).eraseIdx q.toNat)).2 m
    unfold setL
    dsimp only
    by_cases e : m = l.toNat
    · rw [if_pos e, if_pos e, if_pos rfl]
    · rw [if_neg e, if_neg e]
  · rw [if_neg cr] at hQ
    have s144 := fun {d : Nat} {Q : XO → Hp → Prop} => sp_144x (d := d) (Q := Q) h hl hq cr
    simp (disch := omega) only [q_111_0, q_111_1, q_111_2, q_111_3, q_111_6, q_111_7, q_111_8, q_111_11, q_111_12, q_111_15, q_111_18, q_111_19, q_111_22, q_111_23, q_111_24, q_111_27, q_111_28, q_111_29, q_111_32, q_111_33, q_111_36, q_111_37, q_111_40, q_111_e, va_rf_s, bz_0, bz_1, bz_ok, bb_ok, Nat.add_assoc, w_lt, w_add, w_sub, w_mul, w_div, em_def, w_eq, w_inT, ↓ilt_t, ↓ilt_f, ↓ieq_t, ↓ieq_f, ntT, w_b, w_ix, kx_v, kx_n, kl_n, kl_i, kl_r, kl_o, inA_i, inA_s, inA_b, inA_z, inA_l, inA_0, inA_4, inA_5, inA_6, inA_7, inA_8, inA_9, inA_10, al_0, al_1, al_2, al_4, al_5, al_98, bsP_2, bsP_3, wr_same, wr_wr, wr_ne, up_same, up_ne, Nat.reduceAdd, Int.reduceAdd, Int.reduceSub, Int.reduceMul, Int.reduceLT, Int.reduceLE, Int.reduceEq, Int.reduceNeg, Int.reduceToNat, Nat.reduceLT, Nat.reduceLeDiff, Nat.reduceEqDiff, ↓reduceIte, true_and, and_true, not_true_eq_false, not_false_eq_true, eq_self, or_true, true_or, or_false, false_or, if_true, if_false, Int.toNat_natCast, w_ite, Nat.add_zero, reduceCtorEq, ne_eq, hc, s144, kx_t hk]
    exact CK.mis h (Rem.refl h) hf.1 hQ
theorem sp_105 {x1 x2 x3 x4 x5 : Int} (h : CR S I L R G c lo s) (hx1 : B32 x1) (hx2 : B32 x2) (hx3 : B32 x3) (hx4 : B32 x4) (hx5 : B32 x5) (hQ : CK S I L R G c lo Q (outX (rFeed s x1 x2 x3 x4 x5).1) (rFeed s x1 x2 x3 x4 x5).2) : XC (d + 1) 105 [.ref c, .int (w x1), .int (w x2), .int (w x3), .int (w x4), .int (w x5)] (mk S I L R G) Q := by
  have hc := h.1.1
  have hTp := h.1.2.1
  have hT0 := hTp.1
  have hlo := h.2.1
  obtain ⟨⟨ht1, ht2⟩, ht3, ht4⟩ := h.2.2.2.1
  unfold rFeed at hQ
  by_cases c1 : 380 < s.1.length
  · rw [if_pos c1] at hQ
    simp (disch := omega) only [q_105_0, q_105_1, q_105_4, q_105_7, q_105_10, q_105_13, q_105_14, q_105_15, q_105_16, q_105_19, q_105_20, q_105_23, q_105_24, q_105_27, q_105_28, q_105_31, q_105_32, q_105_35, q_105_36, q_105_39, q_105_40, q_105_43, q_105_45, q_105_48, q_105_49, q_105_52, q_105_54, q_105_57, q_105_58, q_105_61, q_105_64, q_105_e, va_rf_s, bz_0, bz_1, bz_ok, bb_ok, Nat.add_assoc, w_lt, w_add, w_sub, w_mul, w_div, em_def, w_eq, w_inT, ↓ilt_t, ↓ilt_f, ↓ieq_t, ↓ieq_f, ntT, w_b, w_ix, kx_v, kx_n, kl_n, kl_i, kl_r, kl_o, inA_i, inA_s, inA_b, inA_z, inA_l, inA_0, inA_4, inA_5, inA_6, inA_7, inA_8, inA_9, inA_10, al_0, al_1, al_2, al_4, al_5, al_98, bsP_2, bsP_3, wr_same, wr_wr, wr_ne, up_same, up_ne, Nat.reduceAdd, Int.reduceAdd, Int.reduceSub, Int.reduceMul, Int.reduceLT, Int.reduceLE, Int.reduceEq, Int.reduceNeg, Int.reduceToNat, Nat.reduceLT, Nat.reduceLeDiff, Nat.reduceEqDiff, ↓reduceIte, true_and, and_true, not_true_eq_false, not_false_eq_true, eq_self, or_true, true_or, or_false, false_or, if_true, if_false, Int.toNat_natCast, w_ite, Nat.add_zero, reduceCtorEq, ne_eq, hc, hT0, ht1]
    exact CK.ask h (Rem.refl h) hQ
  · rw [if_neg c1] at hQ
    have lb : ∀ x, (b4 x).length = 4 := fun _ => rfl
    simp (disch := omega) only [q_105_0, q_105_1, q_105_4, q_105_7, q_105_10, q_105_13, q_105_14, q_105_15, q_105_16, q_105_19, q_105_20, q_105_23, q_105_24, q_105_27, q_105_28, q_105_31, q_105_32, q_105_35, q_105_36, q_105_39, q_105_40, q_105_43, q_105_45, q_105_48, q_105_49, q_105_52, q_105_54, q_105_57, q_105_58, q_105_61, q_105_64, q_105_e, va_rf_s, bz_0, bz_1, bz_ok, bb_ok, Nat.add_assoc, w_lt, w_add, w_sub, w_mul, w_div, em_def, w_eq, w_inT, ↓ilt_t, ↓ilt_f, ↓ieq_t, ↓ieq_f, ntT, w_b, w_ix, kx_v, kx_n, kl_n, kl_i, kl_r, kl_o, inA_i, inA_s, inA_b, inA_z, inA_l, inA_0, inA_4, inA_5, inA_6, inA_7, inA_8, inA_9, inA_10, al_0, al_1, al_2, al_4, al_5, al_98, bsP_2, bsP_3, wr_same, wr_wr, wr_ne, up_same, up_ne, Nat.reduceAdd, Int.reduceAdd, Int.reduceSub, Int.reduceMul, Int.reduceLT, Int.reduceLE, Int.reduceEq, Int.reduceNeg, Int.reduceToNat, Nat.reduceLT, Nat.reduceLeDiff, Nat.reduceEqDiff, ↓reduceIte, true_and, and_true, not_true_eq_false, not_false_eq_true, eq_self, or_true, true_or, or_false, false_or, if_true, if_false, Int.toNat_natCast, w_ite, Nat.add_zero, reduceCtorEq, ne_eq, hc, hT0, ht1]
    refine sp_63 hTp ⟨ht1, ht2⟩ (by omega) (fun I1 f1 hA1 => ?_)
    simp (disch := omega) only [q_105_0, q_105_1, q_105_4, q_105_7, q_105_10, q_105_13, q_105_14, q_105_15, q_105_16, q_105_19, q_105_20, q_105_23, q_105_24, q_105_27, q_105_28, q_105_31, q_105_32, q_105_35, q_105_36, q_105_39, q_105_40, q_105_43, q_105_45, q_105_48, q_105_49, q_105_52, q_105_54, q_105_57, q_105_58, q_105_61, q_105_64, q_105_e, va_rf_s, bz_0, bz_1, bz_ok, bb_ok, Nat.add_assoc, w_lt, w_add, w_sub, w_mul, w_div, em_def, w_eq, w_inT, ↓ilt_t, ↓ilt_f, ↓ieq_t, ↓ieq_f, ntT, w_b, w_ix, kx_v, kx_n, kl_n, kl_i, kl_r, kl_o, inA_i, inA_s, inA_b, inA_z, inA_l, inA_0, inA_4, inA_5, inA_6, inA_7, inA_8, inA_9, inA_10, al_0, al_1, al_2, al_4, al_5, al_98, bsP_2, bsP_3, wr_same, wr_wr, wr_ne, up_same, up_ne, Nat.reduceAdd, Int.reduceAdd, Int.reduceSub, Int.reduceMul, Int.reduceLT, Int.reduceLE, Int.reduceEq, Int.reduceNeg, Int.reduceToNat, Nat.reduceLT, Nat.reduceLeDiff, Nat.reduceEqDiff, ↓reduceIte, true_and, and_true, not_true_eq_false, not_false_eq_true, eq_self, or_true, true_or, or_false, false_or, if_true, if_false, Int.toNat_natCast, w_ite, Nat.add_zero, reduceCtorEq, ne_eq, hc, hT0]
    refine sp_63 hTp hA1 (by rw [List.length_append, lb]; omega) (fun I2 f2 hA2 => ?_)
    simp (disch := omega) only [q_105_0, q_105_1, q_105_4, q_105_7, q_105_10, q_105_13, q_105_14, q_105_15, q_105_16, q_105_19, q_105_20, q_105_23, q_105_24, q_105_27, q_105_28, q_105_31, q_105_32, q_105_35, q_105_36, q_105_39, q_105_40, q_105_43, q_105_45, q_105_48, q_105_49, q_105_52, q_105_54, q_105_57, q_105_58, q_105_61, q_105_64, q_105_e, va_rf_s, bz_0, bz_1, bz_ok, bb_ok, Nat.add_assoc, w_lt, w_add, w_sub, w_mul, w_div, em_def, w_eq, w_inT, ↓ilt_t, ↓ilt_f, ↓ieq_t, ↓ieq_f, ntT, w_b, w_ix, kx_v, kx_n, kl_n, kl_i, kl_r, kl_o, inA_i, inA_s, inA_b, inA_z, inA_l, inA_0, inA_4, inA_5, inA_6, inA_7, inA_8, inA_9, inA_10, al_0, al_1, al_2, al_4, al_5, al_98, bsP_2, bsP_3, wr_same, wr_wr, wr_ne, up_same, up_ne, Nat.reduceAdd, Int.reduceAdd, Int.reduceSub, Int.reduceMul, Int.reduceLT, Int.reduceLE, Int.reduceEq, Int.reduceNeg, Int.reduceToNat, Nat.reduceLT, Nat.reduceLeDiff, Nat.reduceEqDiff, ↓reduceIte, true_and, and_true, not_true_eq_false, not_false_eq_true, eq_self, or_true, true_or, or_false, false_or, if_true, if_false, Int.toNat_natCast, w_ite, Nat.add_zero, reduceCtorEq, ne_eq, hc, hT0]
    refine sp_63 hTp hA2 (by simp only [List.length_append, lb]; omega) (fun I3 f3 hA3 => ?_)
    simp (disch := omega) only [q_105_0, q_105_1, q_105_4, q_105_7, q_105_10, q_105_13, q_105_14, q_105_15, q_105_16, q_105_19, q_105_20, q_105_23, q_105_24, q_105_27, q_105_28, q_105_31, q_105_32, q_105_35, q_105_36, q_105_39, q_105_40, q_105_43, q_105_45, q_105_48, q_105_49, q_105_52, q_105_54, q_105_57, q_105_58, q_105_61, q_105_64, q_105_e, va_rf_s, bz_0, bz_1, bz_ok, bb_ok, Nat.add_assoc, w_lt, w_add, w_sub, w_mul, w_div, em_def, w_eq, w_inT, ↓ilt_t, ↓ilt_f, ↓ieq_t, ↓ieq_f, ntT, w_b, w_ix, kx_v, kx_n, kl_n, kl_i, kl_r, kl_o, inA_i, inA_s, inA_b, inA_z, inA_l, inA_0, inA_4, inA_5, inA_6, inA_7, inA_8, inA_9, inA_10, al_0, al_1, al_2, al_4, al_5, al_98, bsP_2, bsP_3, wr_same, wr_wr, wr_ne, up_same, up_ne, Nat.reduceAdd, Int.reduceAdd, Int.reduceSub, Int.reduceMul, Int.reduceLT, Int.reduceLE, Int.reduceEq, Int.reduceNeg, Int.reduceToNat, Nat.reduceLT, Nat.reduceLeDiff, Nat.reduceEqDiff, ↓reduceIte, true_and, and_true, not_true_eq_false, not_false_eq_true, eq_self, or_true, true_or, or_false, false_or, if_true, if_false, Int.toNat_natCast, w_ite, Nat.add_zero, reduceCtorEq, ne_eq, hc, hT0]
    refine sp_63 hTp hA3 (by simp only [List.length_append, lb]; omega) (fun I4 f4 hA4 => ?_)
    simp (disch := omega) only [q_105_0, q_105_1, q_105_4, q_105_7, q_105_10, q_105_13, q_105_14, q_105_15, q_105_16, q_105_19, q_105_20, q_105_23, q_105_24, q_105_27, q_105_28, q_105_31, q_105_32, q_105_35, q_105_36, q_105_39, q_105_40, q_105_43, q_105_45, q_105_48, q_105_49, q_105_52, q_105_54, q_105_57, q_105_58, q_105_61, q_105_64, q_105_e, va_rf_s, bz_0, bz_1, bz_ok, bb_ok, Nat.add_assoc, w_lt, w_add, w_sub, w_mul, w_div, em_def, w_eq, w_inT, ↓ilt_t, ↓ilt_f, ↓ieq_t, ↓ieq_f, ntT, w_b, w_ix, kx_v, kx_n, kl_n, kl_i, kl_r, kl_o, inA_i, inA_s, inA_b, inA_z, inA_l, inA_0, inA_4, inA_5, inA_6, inA_7, inA_8, inA_9, inA_10, al_0, al_1, al_2, al_4, al_5, al_98, bsP_2, bsP_3, wr_same, wr_wr, wr_ne, up_same, up_ne, Nat.reduceAdd, Int.reduceAdd, Int.reduceSub, Int.reduceMul, Int.reduceLT, Int.reduceLE, Int.reduceEq, Int.reduceNeg, Int.reduceToNat, Nat.reduceLT, Nat.reduceLeDiff, Nat.reduceEqDiff, ↓reduceIte, true_and, and_true, not_true_eq_false, not_false_eq_true, eq_self, or_true, true_or, or_false, false_or, if_true, if_false, Int.toNat_natCast, w_ite, Nat.add_zero, reduceCtorEq, ne_eq, hc, hT0]
    refine sp_63 hTp hA4 (by simp only [List.length_append, lb]; omega) (fun I5 f5 hA5 => ?_)
    have e5 := hA5.1
    have hfr : ∀ a, a ≠ c + 1 → a ≠ c + 2 → I5 a = I a := fun a a1 a2 => by rw [f5 a a1 a2, f4 a a1 a2, f3 a a1 a2, f2 a a1 a2, f1 a a1 a2]
    simp only [List.append_assoc] at hA5 e5
    have hlen : ((s.1 ++ (b4 x1 ++ (b4 x2 ++ (b4 x3 ++ (b4 x4 ++ b4 x5))))).length : Int) = (s.1.length : Int) + 20 := by simp only [List.length_append, lb]; omega
    rw [hlen] at e5
    simp (disch := omega) only [q_105_0, q_105_1, q_105_4, q_105_7, q_105_10, q_105_13, q_105_14, q_105_15, q_105_16, q_105_19, q_105_20, q_105_23, q_105_24, q_105_27, q_105_28, q_105_31, q_105_32, q_105_35, q_105_36, q_105_39, q_105_40, q_105_43, q_105_45, q_105_48, q_105_49, q_105_52, q_105_54, q_105_57, q_105_58, q_105_61, q_105_64, q_105_e, va_rf_s, bz_0, bz_1, bz_ok, bb_ok, Nat.add_assoc, w_lt, w_add, w_sub, w_mul, w_div, em_def, w_eq, w_inT, ↓ilt_t, ↓ilt_f, ↓ieq_t, ↓ieq_f, ntT, w_b, w_ix, kx_v, kx_n, kl_n, kl_i, kl_r, kl_o, inA_i, inA_s, inA_b, inA_z, inA_l, inA_0, inA_4, inA_5, inA_6, inA_7, inA_8, inA_9, inA_10, al_0, al_1, al_2, al_4, al_5, al_98, bsP_2, bsP_3, wr_same, wr_wr, wr_ne, up_same, up_ne, Nat.reduceAdd, Int.reduceAdd, Int.reduceSub, Int.reduceMul, Int.reduceLT, Int.reduceLE, Int.reduceEq, Int.reduceNeg, Int.reduceToNat, Nat.reduceLT, Nat.reduceLeDiff, Nat.reduceEqDiff, ↓reduceIte, true_and, and_true, not_true_eq_false, not_false_eq_true, eq_self, or_true, true_or, or_false, false_or, if_true, if_false, Int.toNat_natCast, w_ite, Nat.add_zero, reduceCtorEq, ne_eq, hc, hT0, e5]
    have hb4 : ∀ x, ∀ b ∈ b4 x, 0 ≤ b ∧ b < 256 := fun x b hb => by
      have : ∀ k, 0 ≤ byt x k ∧ byt x k < 256 := fun k => by unfold byt; omega
      unfold b4 at hb
      simp only [List.mem_cons, List.not_mem_nil, or_false] at hb
      rcases hb with rfl | rfl | rfl | rfl <;> exact this _
    obtain ⟨a1, a2, a3, a4, a5, a6, ⟨r1, r2, r3, r4, r5⟩, a8, a9⟩ := h.cp
    have hRF : RF S I L G lo S I5 L := fun y y1 y2 => ⟨rfl, hfr y (by omega) (by omega), rfl⟩
    have h5 : CP S I5 L R G c lo (s.1 ++ (b4 x1 ++ b4 x2 ++ b4 x3 ++ b4 x4 ++ b4 x5), s.2.1, s.2.2.1, s.2.2.2.1, s.2.2.2.2.1, s.2.2.2.2.2) s.2.1.2 := by
      refine ⟨a1, a2, a3, ⟨?_, ?_, ?_⟩, a5.keep r1 hRF (hfr _ (by omega) (by omega)) (hfr _ (by omega) (by omega)) rfl, a6.keep r2 hRF (fun a h1 h2 => ⟨hfr a (by omega) (by omega), rfl⟩), ⟨r1, r2, r3, r4, r5⟩, fun l hl => ?_, ?_⟩
      · simp only [List.append_assoc]; exact hA5
      · simp only [List.length_append, lb]; omega
      · intro b hb
        simp only [List.mem_append] at hb
        rcases hb with hb | (((hb | hb) | hb) | hb) | hb
        · exact ht4 b hb
        all_goals exact hb4 _ b hb
      · refine (a8 l hl).keep2 (lo := lo) (G := G) ?_ hRF (fun a h1 h2 => hfr a (by omega) (by omega)) rfl
        have : l = 0 ∨ l = 1 := by omega
        rcases this with rfl | rfl
        · exact r3
        · exact r4
      · rw [hfr c (by omega) (by omega)]; exact a9
    exact hQ S I5 L R G (h5.cr (fun _ _ => rfl)) ⟨fun _ _ => rfl, fun a _ ha => ⟨hfr a (by omega) (by omega), rfl, rfl⟩, Nat.le_refl _, Nat.le_add_right _ _, Nat.le_refl _, Nat.le_add_right _ _, rfl⟩
end

/-! rise, undo -/
section
variable {d : Nat} {Q : XO → Hp → Prop} {S : SH} {I : MI} {L : ML} {R : MR} {G : MG} {A : Hp}
variable {c lo : Nat} {s : St} {ρ : Nat → List Rl}
theorem Refs.at2 (h : Refs S R G c lo) {l : Nat} (hl : l < 2) : Ref2 S R G (c + 51 + 20 * l + 13) 30 lo := by
  have : l = 0 ∨ l = 1 := by omega
  rcases this with rfl | rfl
  · exact h.2.2.1
  · exact h.2.2.2.1
theorem CLay.at2 (h : CLay S R c) {l : Nat} (hl : l < 2) : RankS S (c + 51 + 20 * l) := by
  have : l = 0 ∨ l = 1 := by omega
  rcases this with rfl | rfl
  · exact h.2.2.2.2.2.1
  · exact h.2.2.2.2.2.2.1
/-- what the trial voice knows is its own -/
theorem CP.trial {I' : MI} {R' : MR} (h : CP S I L R G c lo s ρ) (eI : ∀ a, (a < c + 91 ∨ c + 91 + 17 ≤ a) → I' a = I a) (eR : ∀ a, a ≠ c + 103 → R' a = R a) (hT : ∀ i, i < 30 → (∃ q, q < 60 ∧ R' (c + 103) i = R (c + 4) q) ∨ R' (c + 103) i = R (c + 103) i) : CP S I' L R' G c lo s ρ := by
  obtain ⟨a1, a2, a3, a4, a5, a6, ⟨r1, r2, r3, r4, r5⟩, a8, a9⟩ := h
  have hRF : RF S I L G lo S I' L := fun y y1 y2 => ⟨rfl, eI y (by omega), rfl⟩
  have hrf : ∀ b n, b ≠ c + 103 → Ref2 S R G b n lo → Ref2 S R' G b n lo := fun b n hb h => h.keep (fun _ _ => rfl) (Nat.le_refl _) (eR _ hb)
  refine ⟨a1.keep (G := G) (by omega) (fun _ _ => rfl) (eR _ (by omega)), a2, a3, ⟨⟨by rw [eI _ (by omega)]; exact a4.1.1, by rw [eI _ (by omega)]; exact a4.1.2⟩, a4.2⟩, a5.keep r1 hRF (eI _ (by omega)) (eI _ (by omega)) (eR _ (by omega)), a6.keep r2 hRF (fun a h1 h2 => ⟨eI a (by omega), eR a (by omega)⟩), ⟨hrf _ _ (by omega) r1, fun j hj => hrf _ _ (by omega) (r2 j hj), hrf _ _ (by omega) r3, hrf _ _ (by omega) r4, fun i hi r hr => ?_⟩, fun l hl => ?_, ?_⟩
  · rcases hT i hi with ⟨q, hq, e⟩ | e
    · rw [e] at hr; exact r1 q hq r hr
    · rw [e] at hr; exact r5 i hi r hr
  · exact (a8 l hl).keep2 (lo := lo) (G := G) (Refs.at2 ⟨r1, r2, r3, r4, r5⟩ hl) hRF (fun a h1 h2 => eI a (by omega)) (eR _ (by omega))
  · rw [eI c (by omega)]; exact a9
/-- the trial voice against a language's -/
theorem CP.diff {l en : Nat} {rt : List Rl} (h : CP S I L R G c lo s ρ) (hl : l < 2) (hR : RsAt S I L R (c + 91) rt) (hM : MInv rt I (c + 91)) (hU : UInv rt I (c + 91)) (he : en ≤ 1002)
    (hQ : ∀ I' : MI, CP S I' L R G c lo s ρ → (∀ a, (a < c ∨ c + 121 ≤ a) → I' a = I a) → Q (.inl (some (.int (w (min (cnt (fun n => !decide (T rt n = T (ρ l) n)) (s.2.1.1 + 1)) en : Nat))))) (mk S I' L R G)) : XC (d + 68) 88 [.ref (c + 91), .ref (c + 51 + 20 * l + 1), .int (w s.2.1.1), .int (w en)] (mk S I L R G) Q := by
  obtain ⟨a1, a2, a3, a4, a5, a6, a7, a8, a9⟩ := h
  have hRt : RsLo R (c + 91) lo rt := a7.2.2.2.2.lo (I := I) (L := L) hR.2.1
  have hr2 := a7.at2 hl
  have hK := a1.at2 hl
  obtain ⟨k1, k2, k3, k4⟩ := a8 l hl
  have hkk : RankIs S I L R (c + 51 + 20 * l) (ρ l) := ⟨k1, k2, k3, k4⟩
  have hRo : RsLo R (c + 51 + 20 * l + 1) lo (ρ l) := Ref2.lo (I := I) (L := L) hr2 k1.2.1
  obtain ⟨k, hk⟩ : ∃ k, k = c + 51 + 20 * l := ⟨_, rfl⟩
  rw [← hk] at k1 k2 k3 k4 hkk hRo hr2 hK ⊢
  refine sp_88 a1.2.2.2.2.2.2.2.1 hK.2.1 (by omega) hR k1 hM hU k2 k3 a5.2.2.1 he (fun I' hf e1 e2 => ⟨hR.congr' hRt (fun a ha => hf a (by omega) (by omega)) e1, k1.congr' hRo (fun a ha => hf a (by omega) (by omega)) e2⟩) (fun I' hf ht hu => ?_)
  obtain ⟨Iu, hu1, hu2⟩ := hu
  have hfr : ∀ a, (a < k + 1 ∨ k + 1 + 17 ≤ a) → (a < c + 91 ∨ c + 91 + 17 ≤ a) → I' a = I a := fun a h1 h2 => hf a h2 h1
  have hRF : RF S I L G lo S I' L := fun y y1 y2 => ⟨rfl, hfr y (by omega) (by omega), rfl⟩
  refine hQ I' ⟨a1, a2, a3, ⟨⟨by rw [hfr _ (by omega) (by omega)]; exact a4.1.1, by rw [hfr _ (by omega) (by omega)]; exact a4.1.2⟩, a4.2⟩, a5.keep a7.1 hRF (hfr _ (by omega) (by omega)) (hfr _ (by omega) (by omega)) rfl, a6.keep a7.2.1 hRF (fun a h1 h2 => ⟨hfr a (by omega) (by omega), rfl⟩), a7, fun m hm => ?_, ?_⟩ (fun a ha => hfr a (by omega) (by omega))
  · by_cases e : m = l
    · subst e
      rw [← hk]
      have h1 : RankIs S Iu L R k (ρ m) := hkk.vp hu1 (fun i r hi hr y y1 y2 => ⟨hu1.1 y (by have := hRo i hi r hr; omega), rfl⟩)
      refine h1.keep2 (lo := lo) (G := G) hr2 (fun y y1 y2 => ⟨rfl, by rw [hfr y (by omega) (by omega), hu1.1 y (by omega)], rfl⟩) (fun a b1 b2 => ?_) rfl
      by_cases c1 : k + 1 ≤ a ∧ a < k + 1 + 17
      · exact hu2 a c1.1 c1.2
      · rw [hfr a (by omega) (by omega), hu1.1 a (by omega)]
    · exact (a8 m hm).keep2 (lo := lo) (G := G) (a7.at2 hm) hRF (fun a h1 h2 => hfr a (by omega) (by omega)) rfl
  · rw [hfr c (by omega) (by omega)]; exact a9
theorem sp_112 {l q : Int} (h : CR S I L R G c lo s) (hf : few s) (hl : B32 l) (hq : B32 q) (hQ : CK S I L R G c lo Q (outX (rRise s l q).1) (rRise s l q).2) : XC (d + 70) 112 [.ref c, .int (w l), .int (w q)] (mk S I L R G) Q := by
  have hc := h.1.1
  have hk : t_han 112 = [] := rfl
  have hB := h.1.2.2.1
  have hB0 := hB.1
  have hH0 := h.1.2.2.2.1.1
  unfold rRise at hQ
  by_cases cr : isRl s l q
  · rw [if_pos cr] at hQ
    have hm : l.toNat < 2 := by omega
    have el : l = (l.toNat : Int) := by omega
    have eq : q = (q.toNat : Int) := by omega
    have hrl : rlz s l = s.2.1.2 l.toNat := rfl
    obtain ⟨r, r1, r2, r3⟩ := h.rule cr
    have s144 := fun {d : Nat} {Q : XO → Hp → Prop} => sp_144 (d := d) (Q := Q) h cr r1
    have hqn : q.toNat < (s.2.1.2 l.toNat).length := by have := cr.2; rw [hrl] at this; omega
    have h30 : (s.2.1.2 l.toNat).length ≤ 30 := (h.2.2.2.2.1.2.2.2 l.toNat hm).2.1
    by_cases cq : 1 ≤ q
    · rw [if_pos cq] at hQ
      have s146 := fun {d : Nat} {Q : XO → Hp → Prop} => h.in (d := d) (Q := Q) hq (y := 1) (z := 30) (by decide) (by decide) (by omega)
      simp (disch := omega) only [q_112_0, q_112_1, q_112_2, q_112_3, q_112_6, q_112_7, q_112_8, q_112_9, q_112_10, q_112_12, q_112_15, q_112_16, q_112_19, q_112_20, q_112_23, q_112_26, q_112_27, q_112_30, q_112_31, q_112_32, q_112_35, q_112_36, q_112_39, q_112_40, q_112_43, q_112_44, q_112_45, q_112_48, q_112_49, q_112_52, q_112_53, q_112_54, q_112_57, q_112_58, q_112_61, q_112_64, q_112_67, q_112_70, q_112_71, q_112_72, q_112_73, q_112_76, q_112_77, q_112_e, va_rf_s, bz_0, bz_1, bz_ok, bb_ok, Nat.add_assoc, w_lt, w_add, w_sub, w_mul, w_div, em_def, w_eq, w_inT, ↓ilt_t, ↓ilt_f, ↓ieq_t, ↓ieq_f, ntT, w_b, w_ix, kx_v, kx_n, kl_n, kl_i, kl_r, kl_o, inA_i, inA_s, inA_b, inA_z, inA_l, inA_0, inA_4, inA_5, inA_6, inA_7, inA_8, inA_9, inA_10, al_0, al_1, al_2, al_4, al_5, al_98, bsP_2, bsP_3, wr_same, wr_wr, wr_ne, up_same, up_ne, Nat.reduceAdd, Int.reduceAdd, Int.reduceSub, Int.reduceMul, Int.reduceLT, Int.reduceLE, Int.reduceEq, Int.reduceNeg, Int.reduceToNat, Nat.reduceLT, Nat.reduceLeDiff, Nat.reduceEqDiff, ↓reduceIte, true_and, and_true, not_true_eq_false, not_false_eq_true, eq_self, or_true, true_or, or_false, false_or, if_true, if_false, Int.toNat_natCast, w_ite, Nat.add_zero, reduceCtorEq, ne_eq, hc, s144, s146, hH0]
      refine h.cp.keepH (fun I1 R1 h1 hf1 => ?_)
      simp (disch := omega) only [q_112_0, q_112_1, q_112_2, q_112_3, q_112_6, q_112_7, q_112_8, q_112_9, q_112_10, q_112_12, q_112_15, q_112_16, q_112_19, q_112_20, q_112_23, q_112_26, q_112_27, q_112_30, q_112_31, q_112_32, q_112_35, q_112_36, q_112_39, q_112_40, q_112_43, q_112_44, q_112_45, q_112_48, q_112_49, q_112_52, q_112_53, q_112_54, q_112_57, q_112_58, q_112_61, q_112_64, q_112_67, q_112_70, q_112_71, q_112_72, q_112_73, q_112_76, q_112_77, q_112_e, va_rf_s, bz_0, bz_1, bz_ok, bb_ok, Nat.add_assoc, w_lt, w_add, w_sub, w_mul, w_div, em_def, w_eq, w_inT, ↓ilt_t, ↓ilt_f, ↓ieq_t, ↓ieq_f, ntT, w_b, w_ix, kx_v, kx_n, kl_n, kl_i, kl_r, kl_o, inA_i, inA_s, inA_b, inA_z, inA_l, inA_0, inA_4, inA_5, inA_6, inA_7, inA_8, inA_9, inA_10, al_0, al_1, al_2, al_4, al_5, al_98, bsP_2, bsP_3, wr_same, wr_wr, wr_ne, up_same, up_ne, Nat.reduceAdd, Int.reduceAdd, Int.reduceSub, Int.reduceMul, Int.reduceLT, Int.reduceLE, Int.reduceEq, Int.reduceNeg, Int.reduceToNat, Nat.reduceLT, Nat.reduceLeDiff, Nat.reduceEqDiff, ↓reduceIte, true_and, and_true, not_true_eq_false, not_false_eq_true, eq_self, or_true, true_or, or_false, false_or, if_true, if_false, Int.toNat_natCast, w_ite, Nat.add_zero, reduceCtorEq, ne_eq, hc, hB0]
      have hlo := h1.2.1
      have hb1 := h1.2.2.2.2.1
      have hr1 := h1.2.2.2.2.2.2.1.1
      have hbl : BkL S I1 L R1 (c + 3) lo l.toNat (s.2.1.2 l.toNat) := hb1.2.2.2 l.toNat hm
      have s6 := fun {d : Nat} {Q : XO → Hp → Prop} => sp_6 (d := d) (Q := Q) (L := L) (G := G) hB hm hbl.1 h30 hqn (by omega) hr1.ok
      rw [← el, ← eq] at s6
      refine s6.mpr ?_
      have u1 : ∀ a, a ≠ c + 3 + 1 → wr R1 (c + 3 + 1) (up (up (R1 (c + 3 + 1)) (l.toNat * 30 + q.toNat) (R1 (c + 3 + 1) (l.toNat * 30 + q.toNat - 1))) (l.toNat * 30 + q.toNat - 1) (R1 (c + 3 + 1) (l.toNat * 30 + q.toNat))) a = R1 a := fun a ha => wr_ne ha
      have u2 : ∀ i, wr R1 (c + 3 + 1) (up (up (R1 (c + 3 + 1)) (l.toNat * 30 + q.toNat) (R1 (c + 3 + 1) (l.toNat * 30 + q.toNat - 1))) (l.toNat * 30 + q.toNat - 1) (R1 (c + 3 + 1) (l.toNat * 30 + q.toNat))) (c + 3 + 1) i = if i = l.toNat * 30 + q.toNat - 1 then R1 (c + 3 + 1) (l.toNat * 30 + q.toNat) else if i = l.toNat * 30 + q.toNat then R1 (c + 3 + 1) (l.toNat * 30 + q.toNat - 1) else R1 (c + 3 + 1) i := fun i => by rw [wr_same]; rfl
      generalize wr R1 (c + 3 + 1) (up (up (R1 (c + 3 + 1)) (l.toNat * 30 + q.toNat) (R1 (c + 3 + 1) (l.toNat * 30 + q.toNat - 1))) (l.toNat * 30 + q.toNat - 1) (R1 (c + 3 + 1) (l.toNat * 30 + q.toNat))) = R2 at u1 u2 ⊢
      have hl60 : l.toNat * 30 ≤ 30 := by omega
      have h2 : CP S I1 L R2 G c lo (setB (hkeep s) (setL s.2.1 l.toNat (swp (s.2.1.2 l.toNat) q.toNat))) s.2.1.2 := by
        refine h1.book (fun _ _ _ => rfl) (fun a ha => u1 a (by omega)) (hb1.setL hm rfl (fun m hm2 hml => ⟨rfl, fun i hi => by
          rw [u2, if_neg (by omega), if_neg (by omega)]⟩) (fun y hy => rfl) ⟨?_, by rw [swp_len]; exact h30, fun i hi => ?_⟩) (fun i hi r' hr' => ?_)
        · rw [swp_len]; exact hbl.1
        · rw [swp_len] at hi
          rw [u2, swp_get hqn (by omega)]
          by_cases c1 : i = q.toNat - 1
          · rw [if_pos (by omega), if_pos c1]
            exact hbl.2.2 q.toNat hqn
          · rw [if_neg (by omega), if_neg c1]
            by_cases c2 : i = q.toNat
            · rw [if_pos (by omega), if_pos c2]
              obtain ⟨r', q1, q2, q3⟩ := hbl.2.2 (q.toNat - 1) (by omega)
              exact ⟨r', by rw [show l.toNat * 30 + q.toNat - 1 = l.toNat * 30 + (q.toNat - 1) by omega]; exact q1, q2, q3⟩
            · rw [if_neg (by omega), if_neg c2]
              exact hbl.2.2 i hi
        · rw [show c + 4 = c + 3 + 1 from rfl, u2] at hr'
          split at hr'
          · exact hr1 _ (by omega) r' hr'
          · split at hr'
            · exact hr1 _ (by omega) r' hr'
            · exact hr1 i hi r' hr'
      have hV := h.1.2.2.2.2.2.2.2.1
      have hV0 := hV.1
      simp (disch := omega) only [q_112_0, q_112_1, q_112_2, q_112_3, q_112_6, q_112_7, q_112_8, q_112_9, q_112_10, q_112_12, q_112_15, q_112_16, q_112_19, q_112_20, q_112_23, q_112_26, q_112_27, q_112_30, q_112_31, q_112_32, q_112_35, q_112_36, q_112_39, q_112_40, q_112_43, q_112_44, q_112_45, q_112_48, q_112_49, q_112_52, q_112_53, q_112_54, q_112_57, q_112_58, q_112_61, q_112_64, q_112_67, q_112_70, q_112_71, q_112_72, q_112_73, q_112_76, q_112_77, q_112_e, va_rf_s, bz_0, bz_1, bz_ok, bb_ok, Nat.add_assoc, w_lt, w_add, w_sub, w_mul, w_div, em_def, w_eq, w_inT, ↓ilt_t, ↓ilt_f, ↓ieq_t, ↓ieq_f, ntT, w_b, w_ix, kx_v, kx_n, kl_n, kl_i, kl_r, kl_o, inA_i, inA_s, inA_b, inA_z, inA_l, inA_0, inA_4, inA_5, inA_6, inA_7, inA_8, inA_9, inA_10, al_0, al_1, al_2, al_4, al_5, al_98, bsP_2, bsP_3, wr_same, wr_wr, wr_ne, up_same, up_ne, Nat.reduceAdd, Int.reduceAdd, Int.reduceSub, Int.reduceMul, Int.reduceLT, Int.reduceLE, Int.reduceEq, Int.reduceNeg, Int.reduceToNat, Nat.reduceLT, Nat.reduceLeDiff, Nat.reduceEqDiff, ↓reduceIte, true_and, and_true, not_true_eq_false, not_false_eq_true, eq_self, or_true, true_or, or_false, false_or, if_true, if_false, Int.toNat_natCast, w_ite, Nat.add_zero, reduceCtorEq, ne_eq, hc, hV0]
      have hbk2 := h2.2.2.2.2.1.2.2.2 l.toNat hm
      have s81 := fun {d : Nat} {Q : XO → Hp → Prop} => sp_81 (d := d) (Q := Q) (G := G) (z := -1) hV hB hm hbk2 (by omega) (by omega) (by omega) (by omega)
      rw [← el] at s81
      refine s81 (fun I3 R3 f3 fR3 hR3 hM3 hU3 hnu hor => ?_)
      have h3 := h2.trial f3 fR3 hor
      have erw : rsW ((setB (hkeep s) (setL s.2.1 l.toNat (swp (s.2.1.2 l.toNat) q.toNat))).2.1.2 l.toNat) (-1) = swp (s.2.1.2 l.toNat) q.toNat := by
        unfold rsW
        rw [if_neg (by omega)]
        show (if l.toNat = l.toNat then _ else _) = _
        rw [if_pos rfl]
      rw [erw] at hR3 hM3 hU3
      have hK := h.1.at2 hm
      have s142 := fun {d : Nat} {Q : XO → Hp → Prop} => sp_142 (d := d) (Q := Q) (S := S) (I := I3) (L := L) (R := R3) (G := G) (c := c) hm hc hK.1
      rw [← el] at s142
      obtain ⟨k, ek⟩ : ∃ k, k = c + 51 + 20 * l.toNat := ⟨_, rfl⟩
      simp only [← ek] at s142
      have hbz : I3 (c + 3) 2 = w s.2.1.1 := h3.2.2.2.2.1.1
      simp (disch := omega) only [q_112_0, q_112_1, q_112_2, q_112_3, q_112_6, q_112_7, q_112_8, q_112_9, q_112_10, q_112_12, q_112_15, q_112_16, q_112_19, q_112_20, q_112_23, q_112_26, q_112_27, q_112_30, q_112_31, q_112_32, q_112_35, q_112_36, q_112_39, q_112_40, q_112_43, q_112_44, q_112_45, q_112_48, q_112_49, q_112_52, q_112_53, q_112_54, q_112_57, q_112_58, q_112_61, q_112_64, q_112_67, q_112_70, q_112_71, q_112_72, q_112_73, q_112_76, q_112_77, q_112_e, va_rf_s, bz_0, bz_1, bz_ok, bb_ok, Nat.add_assoc, w_lt, w_add, w_sub, w_mul, w_div, em_def, w_eq, w_inT, ↓ilt_t, ↓ilt_f, ↓ieq_t, ↓ieq_f, ntT, w_b, w_ix, kx_v, kx_n, kl_n, kl_i, kl_r, kl_o, inA_i, inA_s, inA_b, inA_z, inA_l, inA_0, inA_4, inA_5, inA_6, inA_7, inA_8, inA_9, inA_10, al_0, al_1, al_2, al_4, al_5, al_98, bsP_2, bsP_3, wr_same, wr_wr, wr_ne, up_same, up_ne, Nat.reduceAdd, Int.reduceAdd, Int.reduceSub, Int.reduceMul, Int.reduceLT, Int.reduceLE, Int.reduceEq, Int.reduceNeg, Int.reduceToNat, Nat.reduceLT, Nat.reduceLeDiff, Nat.reduceEqDiff, ↓reduceIte, true_and, and_true, not_true_eq_false, not_false_eq_true, eq_self, or_true, true_or, or_false, false_or, if_true, if_false, Int.toNat_natCast, w_ite, Nat.add_zero, reduceCtorEq, ne_eq, hc, hV0, hB0, hbz, s142]
      have hdf := fun {d : Nat} {Q : XO → Hp → Prop} => h3.diff (d := d) (Q := Q) (en := 1001) hm hR3 hM3 hU3 (by decide)
      rw [← ek] at hdf
      have h1000 : s.2.1.1 ≤ 1000 := h.2.2.2.2.1.2.2.1
      refine hdf (fun I4 h4 hf4 => ?_)
      simp (disch := omega) only [q_112_0, q_112_1, q_112_2, q_112_3, q_112_6, q_112_7, q_112_8, q_112_9, q_112_10, q_112_12, q_112_15, q_112_16, q_112_19, q_112_20, q_112_23, q_112_26, q_112_27, q_112_30, q_112_31, q_112_32, q_112_35, q_112_36, q_112_39, q_112_40, q_112_43, q_112_44, q_112_45, q_112_48, q_112_49, q_112_52, q_112_53, q_112_54, q_112_57, q_112_58, q_112_61, q_112_64, q_112_67, q_112_70, q_112_71, q_112_72, q_112_73, q_112_76, q_112_77, q_112_e, va_rf_s, bz_0, bz_1, bz_ok, bb_ok, Nat.add_assoc, w_lt, w_add, w_sub, w_mul, w_div, em_def, w_eq, w_inT, ↓ilt_t, ↓ilt_f, ↓ieq_t, ↓ieq_f, ntT, w_b, w_ix, kx_v, kx_n, kl_n, kl_i, kl_r, kl_o, inA_i, inA_s, inA_b, inA_z, inA_l, inA_0, inA_4, inA_5, inA_6, inA_7, inA_8, inA_9, inA_10, al_0, al_1, al_2, al_4, al_5, al_98, bsP_2, bsP_3, wr_same, wr_wr, wr_ne, up_same, up_ne, Nat.reduceAdd, Int.reduceAdd, Int.reduceSub, Int.reduceMul, Int.reduceLT, Int.reduceLE, Int.reduceEq, Int.reduceNeg, Int.reduceToNat, Nat.reduceLT, Nat.reduceLeDiff, Nat.reduceEqDiff, ↓reduceIte, true_and, and_true, not_true_eq_false, not_false_eq_true, eq_self, or_true, true_or, or_false, false_or, if_true, if_false, Int.toNat_natCast, w_ite, Nat.add_zero, reduceCtorEq, ne_eq, hc]
      have s114 := fun {d : Nat} {Q : XO → Hp → Prop} => sp_114 (d := d) (Q := Q) h4 hm
      rw [← el] at s114
      refine s114 (fun I5 R5 h5 hf5 => ?_)
      simp (disch := omega) only [q_112_0, q_112_1, q_112_2, q_112_3, q_112_6, q_112_7, q_112_8, q_112_9, q_112_10, q_112_12, q_112_15, q_112_16, q_112_19, q_112_20, q_112_23, q_112_26, q_112_27, q_112_30, q_112_31, q_112_32, q_112_35, q_112_36, q_112_39, q_112_40, q_112_43, q_112_44, q_112_45, q_112_48, q_112_49, q_112_52, q_112_53, q_112_54, q_112_57, q_112_58, q_112_61, q_112_64, q_112_67, q_112_70, q_112_71, q_112_72, q_112_73, q_112_76, q_112_77, q_112_e, va_rf_s, bz_0, bz_1, bz_ok, bb_ok, Nat.add_assoc, w_lt, w_add, w_sub, w_mul, w_div, em_def, w_eq, w_inT, ↓ilt_t, ↓ilt_f, ↓ieq_t, ↓ieq_f, ntT, w_b, w_ix, kx_v, kx_n, kl_n, kl_i, kl_r, kl_o, inA_i, inA_s, inA_b, inA_z, inA_l, inA_0, inA_4, inA_5, inA_6, inA_7, inA_8, inA_9, inA_10, al_0, al_1, al_2, al_4, al_5, al_98, bsP_2, bsP_3, wr_same, wr_wr, wr_ne, up_same, up_ne, Nat.reduceAdd, Int.reduceAdd, Int.reduceSub, Int.reduceMul, Int.reduceLT, Int.reduceLE, Int.reduceEq, Int.reduceNeg, Int.reduceToNat, Nat.reduceLT, Nat.reduceLeDiff, Nat.reduceEqDiff, ↓reduceIte, true_and, and_true, not_true_eq_false, not_false_eq_true, eq_self, or_true, true_or, or_false, false_or, if_true, if_false, Int.toNat_natCast, w_ite, Nat.add_zero, reduceCtorEq, ne_eq]
      have hcl := cnt_le (fun n : Nat => !decide (T (swp (s.2.1.2 l.toNat) q.toNat) n = T (s.2.1.2 l.toNat) n)) (s.2.1.1 + 1)
      have emin : min (cnt (fun n : Nat => !decide (T (swp (s.2.1.2 l.toNat) q.toNat) n = T (s.2.1.2 l.toNat) n)) (s.2.1.1 + 1)) 1001 = cnt (fun n : Nat => !decide (T (swp (s.2.1.2 l.toNat) q.toNat) n = T (s.2.1.2 l.toNat) n)) (s.2.1.1 + 1) := Nat.min_eq_left (by omega)
      have hfin := hQ S I5 L R5 G (h5.cr (fun m hm2 => ?_)) ⟨fun _ _ => rfl, fun a _ ha => ⟨by rw [(hf5 a (by omega)).1, hf4 a (by omega), f3 a (by omega), (hf1 a (by omega)).1], rfl, by rw [(hf5 a (by omega)).2, fR3 a (by omega), u1 a (by omega), (hf1 a (by omega)).2]⟩, Nat.le_refl _, Nat.le_add_right _ _, Nat.le_refl _, Nat.le_add_right _ _, rfl⟩
      · show Q (.inl (some (.int (w (min (cnt (fun n : Nat => !decide (T (swp (s.2.1.2 l.toNat) q.toNat) n = T (s.2.1.2 l.toNat) n)) (s.2.1.1 + 1)) 1001 : Nat))))) _
        rw [emin]
        exact hfin
      · show (if m = l.toNat then (setL s.2.1 l.toNat (swp (s.2.1.2 l.toNat) q.toNat)).2 l.toNat else s.2.1.2 m) = (setL s.2.1 l.toNat (swp (s.2.1.2 l.toNat) q.toNat)).2 m
        unfold setL
        dsimp only
        by_cases e : m = l.toNat
        · rw [if_pos e, if_pos e, if_pos rfl]
        · rw [if_neg e, if_neg e]
    · rw [if_neg cq] at hQ
      have s146 := fun {d : Nat} {Q : XO → Hp → Prop} => h.noI (d := d) (Q := Q) hq (y := 1) (z := 30) (by decide) (by decide) (by omega)
      simp (disch := omega) only [q_112_0, q_112_1, q_112_2, q_112_3, q_112_6, q_112_7, q_112_8, q_112_9, q_112_10, q_112_12, q_112_15, q_112_16, q_112_19, q_112_20, q_112_23, q_112_26, q_112_27, q_112_30, q_112_31, q_112_32, q_112_35, q_112_36, q_112_39, q_112_40, q_112_43, q_112_44, q_112_45, q_112_48, q_112_49, q_112_52, q_112_53, q_112_54, q_112_57, q_112_58, q_112_61, q_112_64, q_112_67, q_112_70, q_112_71, q_112_72, q_112_73, q_112_76, q_112_77, q_112_e, va_rf_s, bz_0, bz_1, bz_ok, bb_ok, Nat.add_assoc, w_lt, w_add, w_sub, w_mul, w_div, em_def, w_eq, w_inT, ↓ilt_t, ↓ilt_f, ↓ieq_t, ↓ieq_f, ntT, w_b, w_ix, kx_v, kx_n, kl_n, kl_i, kl_r, kl_o, inA_i, inA_s, inA_b, inA_z, inA_l, inA_0, inA_4, inA_5, inA_6, inA_7, inA_8, inA_9, inA_10, al_0, al_1, al_2, al_4, al_5, al_98, bsP_2, bsP_3, wr_same, wr_wr, wr_ne, up_same, up_ne, Nat.reduceAdd, Int.reduceAdd, Int.reduceSub, Int.reduceMul, Int.reduceLT, Int.reduceLE, Int.reduceEq, Int.reduceNeg, Int.reduceToNat, Nat.reduceLT, Nat.reduceLeDiff, Nat.reduceEqDiff, ↓reduceIte, true_and, and_true, not_true_eq_false, not_false_eq_true, eq_self, or_true, true_or, or_false, false_or, if_true, if_false, Int.toNat_natCast, w_ite, Nat.add_zero, reduceCtorEq, ne_eq, hc, s144, s146, kx_t hk]
      exact CK.wro h (Rem.refl h) hf.2 hQ
  · rw [if_neg cr] at hQ
    have s144 := fun {d : Nat} {Q : XO → Hp → Prop} => sp_144x (d := d) (Q := Q) h hl hq cr
    simp (disch := omega) only [q_112_0, q_112_1, q_112_2, q_112_3, q_112_6, q_112_7, q_112_8, q_112_9, q_112_10, q_112_12, q_112_15, q_112_16, q_112_19, q_112_20, q_112_23, q_112_26, q_112_27, q_112_30, q_112_31, q_112_32, q_112_35, q_112_36, q_112_39, q_112_40, q_112_43, q_112_44, q_112_45, q_112_48, q_112_49, q_112_52, q_112_53, q_112_54, q_112_57, q_112_58, q_112_61, q_112_64, q_112_67, q_112_70, q_112_71, q_112_72, q_112_73, q_112_76, q_112_77, q_112_e, va_rf_s, bz_0, bz_1, bz_ok, bb_ok, Nat.add_assoc, w_lt, w_add, w_sub, w_mul, w_div, em_def, w_eq, w_inT, ↓ilt_t, ↓ilt_f, ↓ieq_t, ↓ieq_f, ntT, w_b, w_ix, kx_v, kx_n, kl_n, kl_i, kl_r, kl_o, inA_i, inA_s, inA_b, inA_z, inA_l, inA_0, inA_4, inA_5, inA_6, inA_7, inA_8, inA_9, inA_10, al_0, al_1, al_2, al_4, al_5, al_98, bsP_2, bsP_3, wr_same, wr_wr, wr_ne, up_same, up_ne, Nat.reduceAdd, Int.reduceAdd, Int.reduceSub, Int.reduceMul, Int.reduceLT, Int.reduceLE, Int.reduceEq, Int.reduceNeg, Int.reduceToNat, Nat.reduceLT, Nat.reduceLeDiff, Nat.reduceEqDiff, ↓reduceIte, true_and, and_true, not_true_eq_false, not_false_eq_true, eq_self, or_true, true_or, or_false, false_or, if_true, if_false, Int.toNat_natCast, w_ite, Nat.add_zero, reduceCtorEq, ne_eq, hc, s144, kx_t hk]
    exact CK.mis h (Rem.refl h) hf.1 hQ
theorem sp_113 (h : CR S I L R G c lo s) (hQ : CK S I L R G c lo Q (outX (rUndo s).1) (rUndo s).2) : XC (d + 5) 113 [.ref c] (mk S I L R G) Q := by
  have hc := h.1.1
  have hB := h.1.2.2.1
  have hB0 := hB.1
  have hHS := h.1.2.2.2.1
  have hH0 := hHS.1
  obtain ⟨a1, a2, a3, a4, a5, ⟨nx, n1, n2, n3, n4, n5⟩, a7, a8, a9⟩ := h.cp
  unfold rUndo at hQ
  cases hh : s.2.2.1 with
  | nil =>
    rw [hh] at hQ n3
    rw [List.length_nil] at n3
    simp (disch := omega) only [q_113_0, q_113_1, q_113_4, q_113_7, q_113_10, q_113_11, q_113_12, q_113_13, q_113_16, q_113_17, q_113_20, q_113_23, q_113_24, q_113_26, q_113_27, q_113_30, q_113_31, q_113_32, q_113_35, q_113_38, q_113_41, q_113_42, q_113_45, q_113_48, q_113_e, va_rf_s, bz_0, bz_1, bz_ok, bb_ok, Nat.add_assoc, w_lt, w_add, w_sub, w_mul, w_div, em_def, w_eq, w_inT, ↓ilt_t, ↓ilt_f, ↓ieq_t, ↓ieq_f, ntT, w_b, w_ix, kx_v, kx_n, kl_n, kl_i, kl_r, kl_o, inA_i, inA_s, inA_b, inA_z, inA_l, inA_0, inA_4, inA_5, inA_6, inA_7, inA_8, inA_9, inA_10, al_0, al_1, al_2, al_4, al_5, al_98, bsP_2, bsP_3, wr_same, wr_wr, wr_ne, up_same, up_ne, Nat.reduceAdd, Int.reduceAdd, Int.reduceSub, Int.reduceMul, Int.reduceLT, Int.reduceLE, Int.reduceEq, Int.reduceNeg, Int.reduceToNat, Nat.reduceLT, Nat.reduceLeDiff, Nat.reduceEqDiff, ↓reduceIte, true_and, and_true, not_true_eq_false, not_false_eq_true, eq_self, or_true, true_or, or_false, false_or, if_true, if_false, Int.toNat_natCast, w_ite, Nat.add_zero, reduceCtorEq, ne_eq, hc, hH0, n3, Int.natCast_zero]
    exact CK.ask h (Rem.refl h) hQ
  | cons b rest =>
    rw [hh] at hQ n3 n4 n5
    rw [List.length_cons] at n3 n4
    simp (disch := omega) only [q_113_0, q_113_1, q_113_4, q_113_7, q_113_10, q_113_11, q_113_12, q_113_13, q_113_16, q_113_17, q_113_20, q_113_23, q_113_24, q_113_26, q_113_27, q_113_30, q_113_31, q_113_32, q_113_35, q_113_38, q_113_41, q_113_42, q_113_45, q_113_48, q_113_e, va_rf_s, bz_0, bz_1, bz_ok, bb_ok, Nat.add_assoc, w_lt, w_add, w_sub, w_mul, w_div, em_def, w_eq, w_inT, ↓ilt_t, ↓ilt_f, ↓ieq_t, ↓ieq_f, ntT, w_b, w_ix, kx_v, kx_n, kl_n, kl_i, kl_r, kl_o, inA_i, inA_s, inA_b, inA_z, inA_l, inA_0, inA_4, inA_5, inA_6, inA_7, inA_8, inA_9, inA_10, al_0, al_1, al_2, al_4, al_5, al_98, bsP_2, bsP_3, wr_same, wr_wr, wr_ne, up_same, up_ne, Nat.reduceAdd, Int.reduceAdd, Int.reduceSub, Int.reduceMul, Int.reduceLT, Int.reduceLE, Int.reduceEq, Int.reduceNeg, Int.reduceToNat, Nat.reduceLT, Nat.reduceLeDiff, Nat.reduceEqDiff, ↓reduceIte, true_and, and_true, not_true_eq_false, not_false_eq_true, eq_self, or_true, true_or, or_false, false_or, if_true, if_false, Int.toNat_natCast, w_ite, Nat.add_zero, reduceCtorEq, ne_eq, hc, hH0, n3]
    obtain ⟨r1, r2, r3, r4, r5⟩ := a7
    refine sp_24 hHS n2 n1 n3 n4 (by omega) hB (by omega) (fun j hj => by have := (r2 j hj).ok; rw [show c + 6 + 2 + 3 * j + 1 = c + 8 + 3 * j + 1 by omega]; exact this) (fun I1 R1 hb => ?_)
    obtain ⟨f1, f2, f3, f4, f5, f6⟩ := hb
    have hlt : (nx + 11) % 12 < 12 := Nat.mod_lt _ (by decide)
    have eb : c + 6 + 2 + 3 * ((nx + 11) % 12) = c + 8 + 3 * ((nx + 11) % 12) := by omega
    rw [eb] at f4 f5 f6
    have g1 : ∀ a, a ≠ c + 3 → a ≠ c + 5 → a ≠ c + 6 → I1 a = I a := fun a h1 h2 h3 => by rw [f1 a h1 (by omega), wr_ne h3]
    have gh1 : I1 (c + 6) 1 = w ((nx + 11) % 12 : Nat) := by rw [f1 _ (by omega) (by omega), wr_same, up_ne (by decide), up_same]
    have gh2 : I1 (c + 6) 2 = w (rest.length + 1 - 1 : Nat) := by
      rw [f1 _ (by omega) (by omega), wr_same, up_same]
    have hRF : RF S I L G lo S I1 L := fun y y1 y2 => ⟨rfl, g1 y (by omega) (by omega) (by omega), rfl⟩
    have ob : ∀ b l, (wr I (c + 6) b) (c + 8 + 3 * ((nx + 11) % 12)) l = I (c + 8 + 3 * ((nx + 11) % 12)) l := fun b l => by rw [wr_ne (by omega)]
    have h1 : CP S I1 L R1 G c lo (s.1, b, rest, s.2.2.2.1, s.2.2.2.2.1, s.2.2.2.2.2) s.2.1.2 := by
      have hb0 : BookIs S I L R (c + 8 + 3 * ((nx + 11) % 12)) lo b := n5 0 (by rw [List.length_cons]; omega)
      refine ⟨a1.keep (G := G) (by omega) (fun _ _ => rfl) (f3 _ (by omega)), a2, a3, ⟨⟨by rw [g1 _ (by omega) (by omega) (by omega)]; exact a4.1.1, by rw [g1 _ (by omega) (by omega) (by omega)]; exact a4.1.2⟩, a4.2⟩, ?_, ?_, ⟨fun i hi r hr => ?_, fun j hj => (r2 j hj).keep (fun _ _ => rfl) (Nat.le_refl _) (f3 _ (by omega)), r3.keep (fun _ _ => rfl) (Nat.le_refl _) (f3 _ (by omega)), r4.keep (fun _ _ => rfl) (Nat.le_refl _) (f3 _ (by omega)), r5.keep (fun _ _ => rfl) (Nat.le_refl _) (f3 _ (by omega))⟩, fun l hl => (a8 l hl).keep2 (lo := lo) (G := G) (Refs.at2 ⟨r1, r2, r3, r4, r5⟩ hl) hRF (fun a h1 h2 => g1 a (by omega) (by omega) (by omega)) (f3 _ (by omega)), ?_⟩
      · refine ⟨by rw [f6, ob]; exact hb0.1, hb0.2.1, hb0.2.2.1, fun l hl => ?_⟩
        have hbl : BkL S I L R (c + 8 + 3 * ((nx + 11) % 12)) lo l (b.2 l) := hb0.2.2.2 l hl
        refine ⟨?_, hbl.2.1, fun (i : Nat) (hi : i < (b.2 l).length) => ?_⟩
        · rw [f5 l hl, wr_ne (by omega)]; exact hbl.1
        · obtain ⟨r, q1, q2, q3⟩ := hbl.2.2 i hi
          have h30 := hbl.2.1
          have hl30 : l * 30 ≤ 30 := by omega
          obtain ⟨x1, x2, x3⟩ := r2 _ hlt (l * 30 + i) (by omega) r q1
          exact ⟨r, by rw [f4 _ (by omega)]; exact q1, q2, q3.keep (fun y y1 y2 => hRF y (by omega) (by omega))⟩
      · refine ⟨(nx + 11) % 12, hlt, gh1, by rw [gh2]; rfl, by show rest.length ≤ 12; omega, fun j hj => ?_⟩
        have hj' : j < rest.length := hj
        have e0 : ((nx + 11) % 12 + 11 - j) % 12 = (nx + 11 - (j + 1)) % 12 := by omega
        have e2 := Nat.mod_lt (nx + 11 - (j + 1)) (show 0 < 12 by decide)
        have := n5 (j + 1) (by rw [List.length_cons]; omega)
        rw [e0]
        show BookIs S I1 L R1 _ lo (rest.getD j bk0)
        exact BookIs.keep this (r2 _ e2) hRF (g1 _ (by omega) (by omega) (by omega)) (g1 _ (by omega) (by omega) (by omega)) (f3 _ (by omega))
      · have : R1 (c + 4) i = R (c + 8 + 3 * ((nx + 11) % 12) + 1) i := f4 i hi
        rw [this] at hr
        exact r2 _ hlt i hi r hr
      · rw [g1 c (by omega) (by omega) (by omega)]; exact a9
    simp (disch := omega) only [q_113_0, q_113_1, q_113_4, q_113_7, q_113_10, q_113_11, q_113_12, q_113_13, q_113_16, q_113_17, q_113_20, q_113_23, q_113_24, q_113_26, q_113_27, q_113_30, q_113_31, q_113_32, q_113_35, q_113_38, q_113_41, q_113_42, q_113_45, q_113_48, q_113_e, va_rf_s, bz_0, bz_1, bz_ok, bb_ok, Nat.add_assoc, w_lt, w_add, w_sub, w_mul, w_div, em_def, w_eq, w_inT, ↓ilt_t, ↓ilt_f, ↓ieq_t, ↓ieq_f, ntT, w_b, w_ix, kx_v, kx_n, kl_n, kl_i, kl_r, kl_o, inA_i, inA_s, inA_b, inA_z, inA_l, inA_0, inA_4, inA_5, inA_6, inA_7, inA_8, inA_9, inA_10, al_0, al_1, al_2, al_4, al_5, al_98, bsP_2, bsP_3, wr_same, wr_wr, wr_ne, up_same, up_ne, Nat.reduceAdd, Int.reduceAdd, Int.reduceSub, Int.reduceMul, Int.reduceLT, Int.reduceLE, Int.reduceEq, Int.reduceNeg, Int.reduceToNat, Nat.reduceLT, Nat.reduceLeDiff, Nat.reduceEqDiff, ↓reduceIte, true_and, and_true, not_true_eq_false, not_false_eq_true, eq_self, or_true, true_or, or_false, false_or, if_true, if_false, Int.toNat_natCast, w_ite, Nat.add_zero, reduceCtorEq, ne_eq]
    rw [q_113_25]
    simp (disch := omega) only [q_113_0, q_113_1, q_113_4, q_113_7, q_113_10, q_113_11, q_113_12, q_113_13, q_113_16, q_113_17, q_113_20, q_113_23, q_113_24, q_113_26, q_113_27, q_113_30, q_113_31, q_113_32, q_113_35, q_113_38, q_113_41, q_113_42, q_113_45, q_113_48, q_113_e, va_rf_s, bz_0, bz_1, bz_ok, bb_ok, Nat.add_assoc, w_lt, w_add, w_sub, w_mul, w_div, em_def, w_eq, w_inT, ↓ilt_t, ↓ilt_f, ↓ieq_t, ↓ieq_f, ntT, w_b, w_ix, kx_v, kx_n, kl_n, kl_i, kl_r, kl_o, inA_i, inA_s, inA_b, inA_z, inA_l, inA_0, inA_4, inA_5, inA_6, inA_7, inA_8, inA_9, inA_10, al_0, al_1, al_2, al_4, al_5, al_98, bsP_2, bsP_3, wr_same, wr_wr, wr_ne, up_same, up_ne, Nat.reduceAdd, Int.reduceAdd, Int.reduceSub, Int.reduceMul, Int.reduceLT, Int.reduceLE, Int.reduceEq, Int.reduceNeg, Int.reduceToNat, Nat.reduceLT, Nat.reduceLeDiff, Nat.reduceEqDiff, ↓reduceIte, true_and, and_true, not_true_eq_false, not_false_eq_true, eq_self, or_true, true_or, or_false, false_or, if_true, if_false, Int.toNat_natCast, w_ite, Nat.add_zero, reduceCtorEq, ne_eq, hc]
    refine sp_114 (l := 0) h1 (by decide) (fun I2 R2 h2 hf2 => ?_)
    simp (disch := omega) only [q_113_0, q_113_1, q_113_4, q_113_7, q_113_10, q_113_11, q_113_12, q_113_13, q_113_16, q_113_17, q_113_20, q_113_23, q_113_24, q_113_26, q_113_27, q_113_30, q_113_31, q_113_32, q_113_35, q_113_38, q_113_41, q_113_42, q_113_45, q_113_48, q_113_e, va_rf_s, bz_0, bz_1, bz_ok, bb_ok, Nat.add_assoc, w_lt, w_add, w_sub, w_mul, w_div, em_def, w_eq, w_inT, ↓ilt_t, ↓ilt_f, ↓ieq_t, ↓ieq_f, ntT, w_b, w_ix, kx_v, kx_n, kl_n, kl_i, kl_r, kl_o, inA_i, inA_s, inA_b, inA_z, inA_l, inA_0, inA_4, inA_5, inA_6, inA_7, inA_8, inA_9, inA_10, al_0, al_1, al_2, al_4, al_5, al_98, bsP_2, bsP_3, wr_same, wr_wr, wr_ne, up_same, up_ne, Nat.reduceAdd, Int.reduceAdd, Int.reduceSub, Int.reduceMul, Int.reduceLT, Int.reduceLE, Int.reduceEq, Int.reduceNeg, Int.reduceToNat, Nat.reduceLT, Nat.reduceLeDiff, Nat.reduceEqDiff, ↓reduceIte, true_and, and_true, not_true_eq_false, not_false_eq_true, eq_self, or_true, true_or, or_false, false_or, if_true, if_false, Int.toNat_natCast, w_ite, Nat.add_zero, reduceCtorEq, ne_eq]
    rw [q_113_25]
    simp (disch := omega) only [q_113_0, q_113_1, q_113_4, q_113_7, q_113_10, q_113_11, q_113_12, q_113_13, q_113_16, q_113_17, q_113_20, q_113_23, q_113_24, q_113_26, q_113_27, q_113_30, q_113_31, q_113_32, q_113_35, q_113_38, q_113_41, q_113_42, q_113_45, q_113_48, q_113_e, va_rf_s, bz_0, bz_1, bz_ok, bb_ok, Nat.add_assoc, w_lt, w_add, w_sub, w_mul, w_div, em_def, w_eq, w_inT, ↓ilt_t, ↓ilt_f, ↓ieq_t, ↓ieq_f, ntT, w_b, w_ix, kx_v, kx_n, kl_n, kl_i, kl_r, kl_o, inA_i, inA_s, inA_b, inA_z, inA_l, inA_0, inA_4, inA_5, inA_6, inA_7, inA_8, inA_9, inA_10, al_0, al_1, al_2, al_4, al_5, al_98, bsP_2, bsP_3, wr_same, wr_wr, wr_ne, up_same, up_ne, Nat.reduceAdd, Int.reduceAdd, Int.reduceSub, Int.reduceMul, Int.reduceLT, Int.reduceLE, Int.reduceEq, Int.reduceNeg, Int.reduceToNat, Nat.reduceLT, Nat.reduceLeDiff, Nat.reduceEqDiff, ↓reduceIte, true_and, and_true, not_true_eq_false, not_false_eq_true, eq_self, or_true, true_or, or_false, false_or, if_true, if_false, Int.toNat_natCast, w_ite, Nat.add_zero, reduceCtorEq, ne_eq, hc]
    refine sp_114 (l := 1) h2 (by decide) (fun I3 R3 h3 hf3 => ?_)
    simp (disch := omega) only [q_113_0, q_113_1, q_113_4, q_113_7, q_113_10, q_113_11, q_113_12, q_113_13, q_113_16, q_113_17, q_113_20, q_113_23, q_113_24, q_113_26, q_113_27, q_113_30, q_113_31, q_113_32, q_113_35, q_113_38, q_113_41, q_113_42, q_113_45, q_113_48, q_113_e, va_rf_s, bz_0, bz_1, bz_ok, bb_ok, Nat.add_assoc, w_lt, w_add, w_sub, w_mul, w_div, em_def, w_eq, w_inT, ↓ilt_t, ↓ilt_f, ↓ieq_t, ↓ieq_f, ntT, w_b, w_ix, kx_v, kx_n, kl_n, kl_i, kl_r, kl_o, inA_i, inA_s, inA_b, inA_z, inA_l, inA_0, inA_4, inA_5, inA_6, inA_7, inA_8, inA_9, inA_10, al_0, al_1, al_2, al_4, al_5, al_98, bsP_2, bsP_3, wr_same, wr_wr, wr_ne, up_same, up_ne, Nat.reduceAdd, Int.reduceAdd, Int.reduceSub, Int.reduceMul, Int.reduceLT, Int.reduceLE, Int.reduceEq, Int.reduceNeg, Int.reduceToNat, Nat.reduceLT, Nat.reduceLeDiff, Nat.reduceEqDiff, ↓reduceIte, true_and, and_true, not_true_eq_false, not_false_eq_true, eq_self, or_true, true_or, or_false, false_or, if_true, if_false, Int.toNat_natCast, w_ite, Nat.add_zero, reduceCtorEq, ne_eq]
    rw [q_113_25]
    have gh3 : I3 (c + 6) 2 = w (rest.length : Nat) := by rw [(hf3 _ (by omega)).1, (hf2 _ (by omega)).1, gh2]; rfl
    simp (disch := omega) only [q_113_0, q_113_1, q_113_4, q_113_7, q_113_10, q_113_11, q_113_12, q_113_13, q_113_16, q_113_17, q_113_20, q_113_23, q_113_24, q_113_26, q_113_27, q_113_30, q_113_31, q_113_32, q_113_35, q_113_38, q_113_41, q_113_42, q_113_45, q_113_48, q_113_e, va_rf_s, bz_0, bz_1, bz_ok, bb_ok, Nat.add_assoc, w_lt, w_add, w_sub, w_mul, w_div, em_def, w_eq, w_inT, ↓ilt_t, ↓ilt_f, ↓ieq_t, ↓ieq_f, ntT, w_b, w_ix, kx_v, kx_n, kl_n, kl_i, kl_r, kl_o, inA_i, inA_s, inA_b, inA_z, inA_l, inA_0, inA_4, inA_5, inA_6, inA_7, inA_8, inA_9, inA_10, al_0, al_1, al_2, al_4, al_5, al_98, bsP_2, bsP_3, wr_same, wr_wr, wr_ne, up_same, up_ne, Nat.reduceAdd, Int.reduceAdd, Int.reduceSub, Int.reduceMul, Int.reduceLT, Int.reduceLE, Int.reduceEq, Int.reduceNeg, Int.reduceToNat, Nat.reduceLT, Nat.reduceLeDiff, Nat.reduceEqDiff, ↓reduceIte, true_and, and_true, not_true_eq_false, not_false_eq_true, eq_self, or_true, true_or, or_false, false_or, if_true, if_false, Int.toNat_natCast, w_ite, Nat.add_zero, reduceCtorEq, ne_eq, hc, hH0, gh3]
    refine hQ S I3 L R3 G (h3.cr (fun m hm => ?_)) ⟨fun _ _ => rfl, fun a _ ha => ⟨by rw [(hf3 a (by omega)).1, (hf2 a (by omega)).1, g1 a (by omega) (by omega) (by omega)], rfl, by rw [(hf3 a (by omega)).2, (hf2 a (by omega)).2, f3 a (by omega)]⟩, Nat.le_refl _, Nat.le_add_right _ _, Nat.le_refl _, Nat.le_add_right _ _, rfl⟩
    have : m = 0 ∨ m = 1 := by omega
    rcases this with rfl | rfl <;> rfl
end

/-! rules that are never needed -/
theorem unused_T {rs : List Rl} {I : MI} {v k : Nat} {n : Int} (hM : MInv rs I v) (hU : UInv rs I v) (hk : k < rs.length) (hu : ubit I v k = false) (h0 : 0 ≤ n) (hn : Kn I v n) : T (rs.eraseIdx k) n = T rs n := by
  have hb := sl_bd n
  have hm := hM (sl n) hb
  have hu' := hU k hk hu (sl n) hb
  unfold mOk at hm
  unfold Kn at hn
  rw [hn] at hm hu'
  obtain ⟨u1, u2⟩ := hu' h0
  rw [T_sd, T_sd]
  rcases hm with hm | ⟨m1, m2, m3, hm | ⟨x, x1, x2, x3, x4, x5, x6⟩⟩
  · omega
  · rw [u1 hm.1, hm.2]
  · have hp := ev_pos _ _ _ x1
    have hl := ev_len x1
    have e4 : gi I (v + 4) (sl n) = x.1.length := gi_eq x3 (by omega) (by omega)
    have e := u2 (by omega)
    rw [ev_sd x1 hp.2.2 x2, ev_sd (e.trans x1) hp.2.2 x2]
def ndF (rs : List Rl) (h : Nat) : Nat → Int32
  | 0 => w 0
  | k + 1 => if cnt (fun n => !decide (T (rs.eraseIdx k) n = T rs n)) (h + 1) = 0 then (ndF rs h k) ||| (w 1 <<< (w k &&& 31)) else ndF rs h k
def vNeed (rs : List Rl) (h : Nat) : Int := (ndF rs h rs.length).toInt
section
variable {d : Nat} {Q : XO → Hp → Prop} {S : SH} {I : MI} {L : ML} {R : MR} {G : MG} {A : Hp}
variable {c lo : Nat} {s : St}
/-- what the trial voice knows is its own -/
theorem CR.trial {R' : MR} (h : CR S I L R G c lo s) (eR : ∀ a, a ≠ c + 103 → R' a = R a) (hT : ∀ i, i < 30 → (∃ q, q < 60 ∧ R' (c + 103) i = R (c + 4) q) ∨ R' (c + 103) i = R (c + 103) i) : CR S I L R' G c lo s := by
  obtain ⟨a1, a2, a3, a4, a5, a6, a7, a8, a9⟩ := h
  obtain ⟨r1, r2, r3, r4, r5⟩ := a7
  have bk : ∀ b k, b + 1 ≠ c + 103 → BookIs S I L R b lo k → BookIs S I L R' b lo k := fun b k hb h => ⟨h.1, h.2.1, h.2.2.1, fun l hl => (h.2.2.2 l hl).keep rfl (fun i hi => by rw [eR _ hb]) (fun i r hi hr y y1 y2 => ⟨rfl, rfl, rfl⟩)⟩
  obtain ⟨t0, t1, t2, t3, t4⟩ := a1
  refine ⟨⟨t0, t1, t2, ⟨t3.1, t3.2.1, fun i hi => by rw [eR _ (by omega)]; exact t3.2.2 i hi⟩, t4⟩, a2, a3, a4, bk _ _ (by omega) a5, ?_, ⟨?_, ?_, ?_, ?_, ?_⟩, ?_, a9⟩
  · obtain ⟨nx, n1, n2, n3, n4, n5⟩ := a6
    exact ⟨nx, n1, n2, n3, n4, fun j hj => bk _ _ (by have := Nat.mod_lt (nx + 11 - j) (show 0 < 12 by decide); omega) (n5 j hj)⟩
  · intro i hi r hr; rw [eR _ (by omega)] at hr; exact r1 i hi r hr
  · intro j hj i hi r hr; rw [eR _ (by omega)] at hr; exact r2 j hj i hi r hr
  · intro i hi r hr; rw [eR _ (by omega)] at hr; exact r3 i hi r hr
  · intro i hi r hr; rw [eR _ (by omega)] at hr; exact r4 i hi r hr
  · intro i hi r hr
    rcases hT i hi with ⟨q, hq, e⟩ | e
    · rw [e] at hr; exact r1 q hq r hr
    · rw [e] at hr; exact r5 i hi r hr
  · intro l hl
    obtain ⟨k1, k2, k3, k4⟩ := a8 l hl
    exact ⟨k1.keep rfl (fun i hi => by rw [eR _ (by omega)]) (fun i r hi hr y y1 y2 => ⟨rfl, rfl, rfl⟩), k2, k3, k4⟩
/-- the trial voice against a language's -/
theorem CR.diff {l : Int} {k en : Nat} {rt : List Rl} (h : CR S I L R G c lo s) (cl : inL l) (g : Lg S I L R G c lo s l k) (hR : RsAt S I L R (c + 91) rt) (hM : MInv rt I (c + 91)) (hU : UInv rt I (c + 91)) (he : en ≤ 1002)
    (hQ : ∀ I' : MI, Rem S I L R c s I' L → vq (rlz s l) I I' (k + 1) → Q (.inl (some (.int (w (min (cnt (fun n => !decide (T rt n = T (rlz s l) n)) (s.2.1.1 + 1)) en : Nat))))) (mk S I' L R G)) : XC (d + 68) 88 [.ref (c + 91), .ref (k + 1), .int (w s.2.1.1), .int (w en)] (mk S I L R G) Q := by
  obtain ⟨b1, b2, b3, b4⟩ := h.bk
  have gb := g.b1
  have gb2 := g.b2
  have ek := g.hk
  have hlo := h.2.1
  have hV := h.1.2.2.2.2.2.2.2.1
  have hRt : RsLo R (c + 91) lo rt := h.2.2.2.2.2.2.1.2.2.2.2.lo (I := I) (L := L) hR.2.1
  refine sp_88 hV g.hK.2.1 (by omega) hR g.hR hM hU g.hM g.hU b3 he (fun I' hf e1 e2 => ⟨hR.congr' hRt (fun a ha => hf a (by omega) (by omega)) e1, g.hR.congr' g.hl (fun a ha => hf a (by omega) (by omega)) e2⟩) (fun I' hf ht hu => ?_)
  obtain ⟨Iu, hu1, hu2⟩ := hu
  have hr1 := g.vp Iu hu1
  have h1 := hr1.cr h
  have eo : ∀ a, (a < c + 91 ∨ c + 108 ≤ a) → I' a = Iu a := fun a ha => by
    by_cases c1 : k + 1 ≤ a ∧ a < k + 1 + 17
    · exact hu2 a c1.1 c1.2
    · rw [hf a (by omega) (by omega), hu1.1 a (by omega)]
  have hr2 : Rem S Iu L R c s I' L := h1.rk (fun a ha => ⟨eo a (by omega), rfl⟩) (fun l' hl' a a1 a2 => eo a (by omega)) (fun l' hl' j hj => by rw [eo _ (by omega)])
  exact hQ I' (hr1.trans hr2) (hu1.vq.tail (fun a a1 a2 => hu2 a a1 a2))
theorem sp_138 {l : Int} (h : CR S I L R G c lo s) (hf : few s) (hl : B32 l) (hQ : CK S I L R G c lo Q (outX (rLg s l (fun rs => vNeed rs s.2.1.1)).1) (rLg s l (fun rs => vNeed rs s.2.1.1)).2) : XC (d + 72) 138 [.ref c, .int (w l)] (mk S I L R G) Q := by
  have hc := h.1.1
  have hk : t_han 138 = [] := rfl
  unfold rLg at hQ
  by_cases cl : inL l
  · rw [if_pos cl] at hQ
    obtain ⟨k, g⟩ := h.lg cl
    have p142 := @g.p142
    have p143 := @g.p143
    have hv := g.hK.2.1
    have hv0 := hv.1
    have hB := h.1.2.2.1
    have hB0 := hB.1
    have hV := h.1.2.2.2.2.2.2.2.1
    obtain ⟨b1, b2, b3, b4⟩ := h.bk
    have gb := g.b1
    have gb2 := g.b2
    have ek := g.hk
    have hlo := h.2.1
    have hm : l.toNat < 2 := by omega
    have el : l = (l.toNat : Int) := by omega
    have h30 : (rlz s l).length ≤ 30 := (b4 _ hm).2
    simp (disch := omega) only [q_138_0, q_138_1, q_138_2, q_138_5, q_138_6, q_138_7, q_138_10, q_138_11, q_138_12, q_138_13, q_138_16, q_138_19, q_138_22, q_138_23, q_138_24, q_138_25, q_138_29, q_138_30, q_138_33, q_138_34, q_138_37, q_138_40, q_138_41, q_138_43, q_138_44, q_138_46, q_138_49, q_138_52, q_138_53, q_138_56, q_138_57, q_138_60, q_138_61, q_138_63, q_138_66, q_138_67, q_138_70, q_138_71, q_138_72, q_138_75, q_138_78, q_138_79, q_138_82, q_138_85, q_138_86, q_138_89, q_138_90, q_138_92, q_138_94, q_138_97, q_138_98, q_138_99, q_138_101, q_138_102, q_138_103, q_138_104, q_138_107, q_138_110, q_138_111, q_138_e, va_rf_s, bz_0, bz_1, bz_ok, bb_ok, Nat.add_assoc, w_lt, w_add, w_sub, w_mul, w_div, em_def, w_eq, w_inT, ↓ilt_t, ↓ilt_f, ↓ieq_t, ↓ieq_f, ntT, w_b, w_ix, kx_v, kx_n, kl_n, kl_i, kl_r, kl_o, inA_i, inA_s, inA_b, inA_z, inA_l, inA_0, inA_4, inA_5, inA_6, inA_7, inA_8, inA_9, inA_10, al_0, al_1, al_2, al_4, al_5, al_98, bsP_2, bsP_3, wr_same, wr_wr, wr_ne, up_same, up_ne, Nat.reduceAdd, Int.reduceAdd, Int.reduceSub, Int.reduceMul, Int.reduceLT, Int.reduceLE, Int.reduceEq, Int.reduceNeg, Int.reduceToNat, Nat.reduceLT, Nat.reduceLeDiff, Nat.reduceEqDiff, ↓reduceIte, true_and, and_true, not_true_eq_false, not_false_eq_true, eq_self, or_true, true_or, or_false, false_or, if_true, if_false, Int.toNat_natCast, w_ite, Nat.add_zero, reduceCtorEq, ne_eq, hc, p143, p142, hB0, b1, hv0]
    refine sp_85 hv g.hR g.hM g.hU b3 (fun I0 hp0 hk0 => ?_)
    have hr0 := g.vp I0 hp0
    have h0 := hr0.cr h
    have lp : ∀ (j i : Nat) (I1 : MI) (R1 : MR) (o : Option Value), i + j = (rlz s l).length → CR S I1 L R1 G c lo s → (∀ a, (a < c ∨ c + 121 ≤ a) → I1 a = I a ∧ R1 a = R a) → (∀ n : Nat, n ≤ s.2.1.1 → Kn I1 (k + 1) n) → XX (d + 72) 138 27 [some (.ref c), some (.int (w l)), some (.ref (k + 1)), some (.int (ndF (rlz s l) s.2.1.1 i)), some (.int (w i)), o] [] (mk S I1 L R1 G) Q := by
      intro j
      induction j with
      | zero =>
        intro i I1 R1 o hi h1 hf1 hk1
        have : i = (rlz s l).length := by omega
        subst this
        obtain ⟨-, -, -, b4'⟩ := h1.bk
        have s1 := fun {d : Nat} {Q : XO → Hp → Prop} => sp_1 (d := d) (Q := Q) (I := I1) (L := L) (R := R1) (G := G) hB hm (b4' _ hm).1
        rw [← el] at s1
        have el2 : (s.2.1.2 l.toNat).length = (rlz s l).length := rfl
        rw [el2] at s1
        have hQ' : Q _ _ := hQ S I1 L R1 G h1 ⟨fun _ _ => rfl, fun a _ ha => ⟨(hf1 a ha).1, rfl, (hf1 a ha).2⟩, Nat.le_refl _, Nat.le_add_right _ _, Nat.le_refl _, Nat.le_add_right _ _, rfl⟩
        rw [q_138_27]
        simp (disch := omega) only [q_138_0, q_138_1, q_138_2, q_138_5, q_138_6, q_138_7, q_138_10, q_138_11, q_138_12, q_138_13, q_138_16, q_138_19, q_138_22, q_138_23, q_138_24, q_138_25, q_138_29, q_138_30, q_138_33, q_138_34, q_138_37, q_138_40, q_138_41, q_138_43, q_138_44, q_138_46, q_138_49, q_138_52, q_138_53, q_138_56, q_138_57, q_138_60, q_138_61, q_138_63, q_138_66, q_138_67, q_138_70, q_138_71, q_138_72, q_138_75, q_138_78, q_138_79, q_138_82, q_138_85, q_138_86, q_138_89, q_138_90, q_138_92, q_138_94, q_138_97, q_138_98, q_138_99, q_138_101, q_138_102, q_138_103, q_138_104, q_138_107, q_138_110, q_138_111, q_138_e, va_rf_s, bz_0, bz_1, bz_ok, bb_ok, Nat.add_assoc, w_lt, w_add, w_sub, w_mul, w_div, em_def, w_eq, w_inT, ↓ilt_t, ↓ilt_f, ↓ieq_t, ↓ieq_f, ntT, w_b, w_ix, kx_v, kx_n, kl_n, kl_i, kl_r, kl_o, inA_i, inA_s, inA_b, inA_z, inA_l, inA_0, inA_4, inA_5, inA_6, inA_7, inA_8, inA_9, inA_10, al_0, al_1, al_2, al_4, al_5, al_98, bsP_2, bsP_3, wr_same, wr_wr, wr_ne, up_same, up_ne, Nat.reduceAdd, Int.reduceAdd, Int.reduceSub, Int.reduceMul, Int.reduceLT, Int.reduceLE, Int.reduceEq, Int.reduceNeg, Int.reduceToNat, Nat.reduceLT, Nat.reduceLeDiff, Nat.reduceEqDiff, ↓reduceIte, true_and, and_true, not_true_eq_false, not_false_eq_true, eq_self, or_true, true_or, or_false, false_or, if_true, if_false, Int.toNat_natCast, w_ite, Nat.add_zero, reduceCtorEq, ne_eq, hc, hB0, s1]
        have e : w (ndF (rlz s l) s.2.1.1 (rlz s l).length).toInt = ndF (rlz s l) s.2.1.1 (rlz s l).length := (gi_w (fun _ _ => ndF (rlz s l) s.2.1.1 (rlz s l).length) 0 0).symm
        unfold outX vNeed at hQ'
        dsimp only at hQ'
        rw [e] at hQ'
        exact hQ'
      | succ j ih =>
        intro i I1 R1 o hi h1 hf1 hk1
        obtain ⟨b1', -, -, b4'⟩ := h1.bk
        have g1 := h1.lgk cl g
        have s1 := fun {d : Nat} {Q : XO → Hp → Prop} => sp_1 (d := d) (Q := Q) (I := I1) (L := L) (R := R1) (G := G) hB hm (b4' _ hm).1
        rw [← el] at s1
        have el2 : (s.2.1.2 l.toNat).length = (rlz s l).length := rfl
        rw [el2] at s1
        have s86 := fun {d : Nat} {Q : XO → Hp → Prop} => sp_86 (d := d) (Q := Q) (I := I1) (L := L) (R := R1) (G := G) (k := i) hv (by omega)
        rw [q_138_27]
        have hnd : ndF (rlz s l) s.2.1.1 (i + 1) = if cnt (fun n => !decide (T ((rlz s l).eraseIdx i) n = T (rlz s l) n)) (s.2.1.1 + 1) = 0 then (ndF (rlz s l) s.2.1.1 i) ||| (w 1 <<< (w i &&& 31)) else ndF (rlz s l) s.2.1.1 i := rfl
        cases hu : ubit I1 (k + 1) i with
        | false =>
          rw [hu] at s86
          have ih' := ih (i + 1) I1 R1 (some (.int (w 0))) (by omega) h1 hf1 hk1
          have hz : cnt (fun n => !decide (T ((rlz s l).eraseIdx i) n = T (rlz s l) n)) (s.2.1.1 + 1) = 0 := by
            have : ∀ m, m ≤ s.2.1.1 + 1 → cnt (fun n => !decide (T ((rlz s l).eraseIdx i) n = T (rlz s l) n)) m = 0 := by
              intro m
              induction m with
              | zero => intro _; rfl
              | succ m im =>
                intro hm
                have := unused_T g1.hM g1.hU (show i < (rlz s l).length by omega) hu (n := (m : Int)) (by omega) (hk1 m (by omega))
                rw [cnt, im (by omega), this]
                simp
            exact this _ (Nat.le_refl _)
          rw [hnd, if_pos hz] at ih'
          simp only [Int.natCast_add, Int.natCast_one] at ih'
          simp (disch := omega) only [q_138_0, q_138_1, q_138_2, q_138_5, q_138_6, q_138_7, q_138_10, q_138_11, q_138_12, q_138_13, q_138_16, q_138_19, q_138_22, q_138_23, q_138_24, q_138_25, q_138_29, q_138_30, q_138_33, q_138_34, q_138_37, q_138_40, q_138_41, q_138_43, q_138_44, q_138_46, q_138_49, q_138_52, q_138_53, q_138_56, q_138_57, q_138_60, q_138_61, q_138_63, q_138_66, q_138_67, q_138_70, q_138_71, q_138_72, q_138_75, q_138_78, q_138_79, q_138_82, q_138_85, q_138_86, q_138_89, q_138_90, q_138_92, q_138_94, q_138_97, q_138_98, q_138_99, q_138_101, q_138_102, q_138_103, q_138_104, q_138_107, q_138_110, q_138_111, q_138_e, va_rf_s, bz_0, bz_1, bz_ok, bb_ok, Nat.add_assoc, w_lt, w_add, w_sub, w_mul, w_div, em_def, w_eq, w_inT, ↓ilt_t, ↓ilt_f, ↓ieq_t, ↓ieq_f, ntT, w_b, w_ix, kx_v, kx_n, kl_n, kl_i, kl_r, kl_o, inA_i, inA_s, inA_b, inA_z, inA_l, inA_0, inA_4, inA_5, inA_6, inA_7, inA_8, inA_9, inA_10, al_0, al_1, al_2, al_4, al_5, al_98, bsP_2, bsP_3, wr_same, wr_wr, wr_ne, up_same, up_ne, Nat.reduceAdd, Int.reduceAdd, Int.reduceSub, Int.reduceMul, Int.reduceLT, Int.reduceLE, Int.reduceEq, Int.reduceNeg, Int.reduceToNat, Nat.reduceLT, Nat.reduceLeDiff, Nat.reduceEqDiff, ↓reduceIte, true_and, and_true, not_true_eq_false, not_false_eq_true, eq_self, or_true, true_or, or_false, false_or, if_true, if_false, Int.toNat_natCast, w_ite, Nat.add_zero, reduceCtorEq, ne_eq, hc, hB0, s1, s86, hv0]
          exact ih'
        | true =>
          rw [hu] at s86
          simp (disch := omega) only [q_138_0, q_138_1, q_138_2, q_138_5, q_138_6, q_138_7, q_138_10, q_138_11, q_138_12, q_138_13, q_138_16, q_138_19, q_138_22, q_138_23, q_138_24, q_138_25, q_138_29, q_138_30, q_138_33, q_138_34, q_138_37, q_138_40, q_138_41, q_138_43, q_138_44, q_138_46, q_138_49, q_138_52, q_138_53, q_138_56, q_138_57, q_138_60, q_138_61, q_138_63, q_138_66, q_138_67, q_138_70, q_138_71, q_138_72, q_138_75, q_138_78, q_138_79, q_138_82, q_138_85, q_138_86, q_138_89, q_138_90, q_138_92, q_138_94, q_138_97, q_138_98, q_138_99, q_138_101, q_138_102, q_138_103, q_138_104, q_138_107, q_138_110, q_138_111, q_138_e, va_rf_s, bz_0, bz_1, bz_ok, bb_ok, Nat.add_assoc, w_lt, w_add, w_sub, w_mul, w_div, em_def, w_eq, w_inT, ↓ilt_t, ↓ilt_f, ↓ieq_t, ↓ieq_f, ntT, w_b, w_ix, kx_v, kx_n, kl_n, kl_i, kl_r, kl_o, inA_i, inA_s, inA_b, inA_z, inA_l, inA_0, inA_4, inA_5, inA_6, inA_7, inA_8, inA_9, inA_10, al_0, al_1, al_2, al_4, al_5, al_98, bsP_2, bsP_3, wr_same, wr_wr, wr_ne, up_same, up_ne, Nat.reduceAdd, Int.reduceAdd, Int.reduceSub, Int.reduceMul, Int.reduceLT, Int.reduceLE, Int.reduceEq, Int.reduceNeg, Int.reduceToNat, Nat.reduceLT, Nat.reduceLeDiff, Nat.reduceEqDiff, ↓reduceIte, true_and, and_true, not_true_eq_false, not_false_eq_true, eq_self, or_true, true_or, or_false, false_or, if_true, if_false, Int.toNat_natCast, w_ite, Nat.add_zero, reduceCtorEq, ne_eq, hc, hB0, s1, s86, hv0, hV.1]
          have hbk := h1.2.2.2.2.1.2.2.2 l.toNat hm
          have s81 := fun {d : Nat} {Q : XO → Hp → Prop} => sp_81 (d := d) (Q := Q) (G := G) (z := (i : Int)) hV hB hm hbk (by omega) (by omega) (by omega) (by omega)
          rw [← el] at s81
          refine s81 (fun I2 R2 f2 fR2 hR2 hM2 hU2 hnu hor => ?_)
          have hr2 : Rem S I1 L R1 c s I2 L := h1.rk (fun a ha => ⟨f2 a (by omega), rfl⟩) (fun l' hl' a a1 a2 => f2 a (by omega)) (fun l' hl' j hj => by rw [f2 _ (by omega)])
          have h2 : CR S I2 L R2 G c lo s := (hr2.cr h1).trial fR2 hor
          have g2 := h2.lgk cl g
          have erw : rsW (s.2.1.2 l.toNat) (i : Int) = (rlz s l).eraseIdx i := by
            unfold rsW
            have : (0 : Int) ≤ i ∧ (i : Int) < (s.2.1.2 l.toNat).length := ⟨by omega, by rw [el2]; omega⟩
            rw [if_pos this]; rfl
          rw [erw] at hR2 hM2 hU2
          obtain ⟨b1'', -, -, -⟩ := h2.bk
          simp (disch := omega) only [q_138_0, q_138_1, q_138_2, q_138_5, q_138_6, q_138_7, q_138_10, q_138_11, q_138_12, q_138_13, q_138_16, q_138_19, q_138_22, q_138_23, q_138_24, q_138_25, q_138_29, q_138_30, q_138_33, q_138_34, q_138_37, q_138_40, q_138_41, q_138_43, q_138_44, q_138_46, q_138_49, q_138_52, q_138_53, q_138_56, q_138_57, q_138_60, q_138_61, q_138_63, q_138_66, q_138_67, q_138_70, q_138_71, q_138_72, q_138_75, q_138_78, q_138_79, q_138_82, q_138_85, q_138_86, q_138_89, q_138_90, q_138_92, q_138_94, q_138_97, q_138_98, q_138_99, q_138_101, q_138_102, q_138_103, q_138_104, q_138_107, q_138_110, q_138_111, q_138_e, va_rf_s, bz_0, bz_1, bz_ok, bb_ok, Nat.add_assoc, w_lt, w_add, w_sub, w_mul, w_div, em_def, w_eq, w_inT, ↓ilt_t, ↓ilt_f, ↓ieq_t, ↓ieq_f, ntT, w_b, w_ix, kx_v, kx_n, kl_n, kl_i, kl_r, kl_o, inA_i, inA_s, inA_b, inA_z, inA_l, inA_0, inA_4, inA_5, inA_6, inA_7, inA_8, inA_9, inA_10, al_0, al_1, al_2, al_4, al_5, al_98, bsP_2, bsP_3, wr_same, wr_wr, wr_ne, up_same, up_ne, Nat.reduceAdd, Int.reduceAdd, Int.reduceSub, Int.reduceMul, Int.reduceLT, Int.reduceLE, Int.reduceEq, Int.reduceNeg, Int.reduceToNat, Nat.reduceLT, Nat.reduceLeDiff, Nat.reduceEqDiff, ↓reduceIte, true_and, and_true, not_true_eq_false, not_false_eq_true, eq_self, or_true, true_or, or_false, false_or, if_true, if_false, Int.toNat_natCast, w_ite, Nat.add_zero, reduceCtorEq, ne_eq, hc, hB0, b1'', hV.1]
          refine h2.diff cl g2 hR2 hM2 hU2 (en := 1) (by decide) (fun I3 hr3 hq3 => ?_)
          have h3 := hr3.cr h2
          have hk3 : ∀ n : Nat, n ≤ s.2.1.1 → Kn I3 (k + 1) n := fun n hn => Kn_vq hq3 (by omega) (Kn_congr (f2 _ (by omega)) (hk1 n hn))
          have hf3 : ∀ a, (a < c ∨ c + 121 ≤ a) → I3 a = I a ∧ R2 a = R a := fun a ha => ⟨by rw [(hr3.1 a ha).1, f2 a (by omega), (hf1 a ha).1], by rw [fR2 a (by omega), (hf1 a ha).2]⟩
          by_cases cz : cnt (fun n => !decide (T ((rlz s l).eraseIdx i) n = T (rlz s l) n)) (s.2.1.1 + 1) = 0
          · have ih' := ih (i + 1) I3 R2 (some (.int (w 0))) (by omega) h3 hf3 hk3
            rw [hnd, if_pos cz] at ih'
            simp only [Int.natCast_add, Int.natCast_one] at ih'
            rw [cz]
            simp (disch := omega) only [q_138_0, q_138_1, q_138_2, q_138_5, q_138_6, q_138_7, q_138_10, q_138_11, q_138_12, q_138_13, q_138_16, q_138_19, q_138_22, q_138_23, q_138_24, q_138_25, q_138_29, q_138_30, q_138_33, q_138_34, q_138_37, q_138_40, q_138_41, q_138_43, q_138_44, q_138_46, q_138_49, q_138_52, q_138_53, q_138_56, q_138_57, q_138_60, q_138_61, q_138_63, q_138_66, q_138_67, q_138_70, q_138_71, q_138_72, q_138_75, q_138_78, q_138_79, q_138_82, q_138_85, q_138_86, q_138_89, q_138_90, q_138_92, q_138_94, q_138_97, q_138_98, q_138_99, q_138_101, q_138_102, q_138_103, q_138_104, q_138_107, q_138_110, q_138_111, q_138_e, va_rf_s, bz_0, bz_1, bz_ok, bb_ok, Nat.add_assoc, w_lt, w_add, w_sub, w_mul, w_div, em_def, w_eq, w_inT, ↓ilt_t, ↓ilt_f, ↓ieq_t, ↓ieq_f, ntT, w_b, w_ix, kx_v, kx_n, kl_n, kl_i, kl_r, kl_o, inA_i, inA_s, inA_b, inA_z, inA_l, inA_0, inA_4, inA_5, inA_6, inA_7, inA_8, inA_9, inA_10, al_0, al_1, al_2, al_4, al_5, al_98, bsP_2, bsP_3, wr_same, wr_wr, wr_ne, up_same, up_ne, Nat.reduceAdd, Int.reduceAdd, Int.reduceSub, Int.reduceMul, Int.reduceLT, Int.reduceLE, Int.reduceEq, Int.reduceNeg, Int.reduceToNat, Nat.reduceLT, Nat.reduceLeDiff, Nat.reduceEqDiff, ↓reduceIte, true_and, and_true, not_true_eq_false, not_false_eq_true, eq_self, or_true, true_or, or_false, false_or, if_true, if_false, Int.toNat_natCast, w_ite, Nat.add_zero, reduceCtorEq, ne_eq]
            exact ih'
          · have ih' := ih (i + 1) I3 R2 (some (.int (w 1))) (by omega) h3 hf3 hk3
            rw [hnd, if_neg cz] at ih'
            simp only [Int.natCast_add, Int.natCast_one] at ih'
            rw [Nat.min_eq_right (by omega)]
            simp (disch := omega) only [q_138_0, q_138_1, q_138_2, q_138_5, q_138_6, q_138_7, q_138_10, q_138_11, q_138_12, q_138_13, q_138_16, q_138_19, q_138_22, q_138_23, q_138_24, q_138_25, q_138_29, q_138_30, q_138_33, q_138_34, q_138_37, q_138_40, q_138_41, q_138_43, q_138_44, q_138_46, q_138_49, q_138_52, q_138_53, q_138_56, q_138_57, q_138_60, q_138_61, q_138_63, q_138_66, q_138_67, q_138_70, q_138_71, q_138_72, q_138_75, q_138_78, q_138_79, q_138_82, q_138_85, q_138_86, q_138_89, q_138_90, q_138_92, q_138_94, q_138_97, q_138_98, q_138_99, q_138_101, q_138_102, q_138_103, q_138_104, q_138_107, q_138_110, q_138_111, q_138_e, va_rf_s, bz_0, bz_1, bz_ok, bb_ok, Nat.add_assoc, w_lt, w_add, w_sub, w_mul, w_div, em_def, w_eq, w_inT, ↓ilt_t, ↓ilt_f, ↓ieq_t, ↓ieq_f, ntT, w_b, w_ix, kx_v, kx_n, kl_n, kl_i, kl_r, kl_o, inA_i, inA_s, inA_b, inA_z, inA_l, inA_0, inA_4, inA_5, inA_6, inA_7, inA_8, inA_9, inA_10, al_0, al_1, al_2, al_4, al_5, al_98, bsP_2, bsP_3, wr_same, wr_wr, wr_ne, up_same, up_ne, Nat.reduceAdd, Int.reduceAdd, Int.reduceSub, Int.reduceMul, Int.reduceLT, Int.reduceLE, Int.reduceEq, Int.reduceNeg, Int.reduceToNat, Nat.reduceLT, Nat.reduceLeDiff, Nat.reduceEqDiff, ↓reduceIte, true_and, and_true, not_true_eq_false, not_false_eq_true, eq_self, or_true, true_or, or_false, false_or, if_true, if_false, Int.toNat_natCast, w_ite, Nat.add_zero, reduceCtorEq, ne_eq]
            exact ih'
    simp (disch := omega) only [q_138_0, q_138_1, q_138_2, q_138_5, q_138_6, q_138_7, q_138_10, q_138_11, q_138_12, q_138_13, q_138_16, q_138_19, q_138_22, q_138_23, q_138_24, q_138_25, q_138_29, q_138_30, q_138_33, q_138_34, q_138_37, q_138_40, q_138_41, q_138_43, q_138_44, q_138_46, q_138_49, q_138_52, q_138_53, q_138_56, q_138_57, q_138_60, q_138_61, q_138_63, q_138_66, q_138_67, q_138_70, q_138_71, q_138_72, q_138_75, q_138_78, q_138_79, q_138_82, q_138_85, q_138_86, q_138_89, q_138_90, q_138_92, q_138_94, q_138_97, q_138_98, q_138_99, q_138_101, q_138_102, q_138_103, q_138_104, q_138_107, q_138_110, q_138_111, q_138_e, va_rf_s, bz_0, bz_1, bz_ok, bb_ok, Nat.add_assoc, w_lt, w_add, w_sub, w_mul, w_div, em_def, w_eq, w_inT, ↓ilt_t, ↓ilt_f, ↓ieq_t, ↓ieq_f, ntT, w_b, w_ix, kx_v, kx_n, kl_n, kl_i, kl_r, kl_o, inA_i, inA_s, inA_b, inA_z, inA_l, inA_0, inA_4, inA_5, inA_6, inA_7, inA_8, inA_9, inA_10, al_0, al_1, al_2, al_4, al_5, al_98, bsP_2, bsP_3, wr_same, wr_wr, wr_ne, up_same, up_ne, Nat.reduceAdd, Int.reduceAdd, Int.reduceSub, Int.reduceMul, Int.reduceLT, Int.reduceLE, Int.reduceEq, Int.reduceNeg, Int.reduceToNat, Nat.reduceLT, Nat.reduceLeDiff, Nat.reduceEqDiff, ↓reduceIte, true_and, and_true, not_true_eq_false, not_false_eq_true, eq_self, or_true, true_or, or_false, false_or, if_true, if_false, Int.toNat_natCast, w_ite, Nat.add_zero, reduceCtorEq, ne_eq]
    exact lp (rlz s l).length 0 I0 R _ (by omega) h0 (fun a ha => ⟨(hr0.1 a ha).1, rfl⟩) hk0
  · rw [if_neg cl] at hQ
    have s143 := fun {d : Nat} {Q : XO → Hp → Prop} => h.noL (d := d) (Q := Q) hl cl
    simp (disch := omega) only [q_138_0, q_138_1, q_138_2, q_138_5, q_138_6, q_138_7, q_138_10, q_138_11, q_138_12, q_138_13, q_138_16, q_138_19, q_138_22, q_138_23, q_138_24, q_138_25, q_138_29, q_138_30, q_138_33, q_138_34, q_138_37, q_138_40, q_138_41, q_138_43, q_138_44, q_138_46, q_138_49, q_138_52, q_138_53, q_138_56, q_138_57, q_138_60, q_138_61, q_138_63, q_138_66, q_138_67, q_138_70, q_138_71, q_138_72, q_138_75, q_138_78, q_138_79, q_138_82, q_138_85, q_138_86, q_138_89, q_138_90, q_138_92, q_138_94, q_138_97, q_138_98, q_138_99, q_138_101, q_138_102, q_138_103, q_138_104, q_138_107, q_138_110, q_138_111, q_138_e, va_rf_s, bz_0, bz_1, bz_ok, bb_ok, Nat.add_assoc, w_lt, w_add, w_sub, w_mul, w_div, em_def, w_eq, w_inT, ↓ilt_t, ↓ilt_f, ↓ieq_t, ↓ieq_f, ntT, w_b, w_ix, kx_v, kx_n, kl_n, kl_i, kl_r, kl_o, inA_i, inA_s, inA_b, inA_z, inA_l, inA_0, inA_4, inA_5, inA_6, inA_7, inA_8, inA_9, inA_10, al_0, al_1, al_2, al_4, al_5, al_98, bsP_2, bsP_3, wr_same, wr_wr, wr_ne, up_same, up_ne, Nat.reduceAdd, Int.reduceAdd, Int.reduceSub, Int.reduceMul, Int.reduceLT, Int.reduceLE, Int.reduceEq, Int.reduceNeg, Int.reduceToNat, Nat.reduceLT, Nat.reduceLeDiff, Nat.reduceEqDiff, ↓reduceIte, true_and, and_true, not_true_eq_false, not_false_eq_true, eq_self, or_true, true_or, or_false, false_or, if_true, if_false, Int.toNat_natCast, w_ite, Nat.add_zero, reduceCtorEq, ne_eq, hc, s143, kx_t hk]
    exact CK.mis h (Rem.refl h) hf.1 hQ
end

/-! all texts counted -/
/-- where a word lies in a memo -/
def PW (rs : List Rl) (I : MI) (v : Nat) (x : List Int) (q : Nat) : Prop := ∃ n i, n ≤ 1000 ∧ q = n * 100 + i ∧ i + x.length ≤ (tx rs n).length ∧ x = ((tx rs n).drop i).take x.length ∧ (T rs n).isSome = true ∧ Kn I v n
theorem Txt_sub {f : Nat → Int32} {p i n : Nat} {t : List Int} (h : Txt f p t) (hi : i + n ≤ t.length) : Txt f (p + i) ((t.drop i).take n) := by
  intro j hj
  rw [List.length_take, List.length_drop] at hj
  have := h (i + j) (by omega)
  rw [← Nat.add_assoc] at this
  rw [this]
  congr 1
  rw [List.getD_eq_getElem?_getD, List.getD_eq_getElem?_getD, List.getElem?_take_of_lt (by omega), List.getElem?_drop]
theorem PW_ok {rs : List Rl} {I : MI} {v q : Nat} {x : List Int} (hM : MInv rs I v) (hr : rsOk rs) (h : PW rs I v x q) : Txt (I (v + 2)) q x ∧ q + x.length ≤ 115200 := by
  obtain ⟨n, i, h1, h2, h3, h4, h5, h6⟩ := h
  obtain ⟨t, ht⟩ := Option.isSome_iff_exists.mp h5
  have e : tx rs n = t := by unfold tx; rw [ht]; rfl
  obtain ⟨k1, k2, k3, k4, k5⟩ := Kn.Sd hM hr h6 (by omega) ht
  rw [sl_small (by omega) (by omega)] at k4
  rw [e] at h3 h4
  have := Txt_sub k4 h3
  rw [← h4] at this
  subst h2
  exact ⟨this, by omega⟩
section
variable {d : Nat} {Q : XO → Hp → Prop} {S : SH} {I : MI} {L : ML} {R : MR} {G : MG} {A : Hp}
theorem sp_97 {u v h lo : Nat} {rs : List Rl} (hS : WcS S u) (hV : VoiS S v) (hd : u + 4 ≤ v ∨ v + 17 ≤ u) (hR : RsAt S I L R v rs) (hlo : RsLo R v lo rs) (hl1 : v + 17 ≤ lo) (hl2 : u + 4 ≤ lo) (hM : MInv rs I v) (hU : UInv rs I v) (hh : h ≤ 1000)
    (hQ : ∀ (I' : MI) (un mt ml : Nat), (∀ a, (a < v ∨ v + 17 ≤ a) → (a < u ∨ u + 3 < a) → I' a = I a) → vq rs I I' v → WRes (wl_ rs (h + 1)) un mt ml → WcD I' u un mt ml → Q (.inl none) (mk S I' L R G)) :
    XC (d + 68) 97 [.ref u, .ref v, .int (w h)] (mk S I L R G) Q := by
  obtain ⟨g0, g1, g2, g3⟩ := id hS
  obtain ⟨v0, v1, -⟩ := id hV
  have hr := hR.ok
  have hbS : S (v + 2) = some (.inl (2, 115200)) := v1.2.1
  have lp : ∀ (j n : Nat) (I1 : MI) (E1 : Nat → Option Ent) (un1 : Nat), n + j = h + 1 → (∀ a, (a < v ∨ v + 17 ≤ a) → (a < u ∨ u + 3 < a) → I1 a = I a) → vq rs I I1 v → WSt I1 u un1 E1 (wl_ rs n) (PW rs I1 v) → XX (d + 68) 97 15 [some (.ref u), some (.ref v), some (.int (w h)), some (.int (w n))] [] (mk S I1 L R G) Q := by
    intro j
    induction j with
    | zero =>
      intro n I1 E1 un1 hn h1 h2 h3
      have : n = h + 1 := by omega
      subst this
      rw [q_97_15]
      simp (disch := omega) only [q_97_0, q_97_1, q_97_4, q_97_5, q_97_8, q_97_9, q_97_10, q_97_13, q_97_14, q_97_16, q_97_17, q_97_20, q_97_21, q_97_22, q_97_25, q_97_28, q_97_29, q_97_30, q_97_33, q_97_36, q_97_37, q_97_40, q_97_41, q_97_44, q_97_45, q_97_48, q_97_49, q_97_52, q_97_55, q_97_58, q_97_61, q_97_62, q_97_63, q_97_66, q_97_69, q_97_72, q_97_e, va_rf_s, bz_0, bz_1, bz_ok, bb_ok, Nat.add_assoc, w_lt, w_add, w_sub, w_mul, w_div, em_def, w_eq, w_inT, ↓ilt_t, ↓ilt_f, ↓ieq_t, ↓ieq_f, ntT, w_b, w_ix, kx_v, kx_n, kl_n, kl_i, kl_r, kl_o, inA_i, inA_s, inA_b, inA_z, inA_l, inA_0, inA_4, inA_5, inA_6, inA_7, inA_8, inA_9, inA_10, al_0, al_1, al_2, al_4, al_5, al_98, bsP_2, bsP_3, wr_same, wr_wr, wr_ne, up_same, up_ne, Nat.reduceAdd, Int.reduceAdd, Int.reduceSub, Int.reduceMul, Int.reduceLT, Int.reduceLE, Int.reduceEq, Int.reduceNeg, Int.reduceToNat, Nat.reduceLT, Nat.reduceLeDiff, Nat.reduceEqDiff, ↓reduceIte, true_and, and_true, not_true_eq_false, not_false_eq_true, eq_self, or_true, true_or, or_false, false_or, if_true, if_false, Int.toNat_natCast, w_ite, Nat.add_zero, reduceCtorEq, ne_eq, v0, v1.1, g0]
      refine sp_100 (b := v + 2) (P := PW rs I1 v) hS hbS (by decide) (by omega) (fun y q hy => PW_ok h2.2.1 hr hy) ⟨by have := wl_sum hr (h + 1); omega, wl_ok hr _⟩ h3 (fun I2 m f1 f2 f3 f4 => ?_)
      simp (disch := omega) only [q_97_0, q_97_1, q_97_4, q_97_5, q_97_8, q_97_9, q_97_10, q_97_13, q_97_14, q_97_16, q_97_17, q_97_20, q_97_21, q_97_22, q_97_25, q_97_28, q_97_29, q_97_30, q_97_33, q_97_36, q_97_37, q_97_40, q_97_41, q_97_44, q_97_45, q_97_48, q_97_49, q_97_52, q_97_55, q_97_58, q_97_61, q_97_62, q_97_63, q_97_66, q_97_69, q_97_72, q_97_e, va_rf_s, bz_0, bz_1, bz_ok, bb_ok, Nat.add_assoc, w_lt, w_add, w_sub, w_mul, w_div, em_def, w_eq, w_inT, ↓ilt_t, ↓ilt_f, ↓ieq_t, ↓ieq_f, ntT, w_b, w_ix, kx_v, kx_n, kl_n, kl_i, kl_r, kl_o, inA_i, inA_s, inA_b, inA_z, inA_l, inA_0, inA_4, inA_5, inA_6, inA_7, inA_8, inA_9, inA_10, al_0, al_1, al_2, al_4, al_5, al_98, bsP_2, bsP_3, wr_same, wr_wr, wr_ne, up_same, up_ne, Nat.reduceAdd, Int.reduceAdd, Int.reduceSub, Int.reduceMul, Int.reduceLT, Int.reduceLE, Int.reduceEq, Int.reduceNeg, Int.reduceToNat, Nat.reduceLT, Nat.reduceLeDiff, Nat.reduceEqDiff, ↓reduceIte, true_and, and_true, not_true_eq_false, not_false_eq_true, eq_self, or_true, true_or, or_false, false_or, if_true, if_false, Int.toNat_natCast, w_ite, Nat.add_zero, reduceCtorEq, ne_eq]
      obtain ⟨t1, t2, t3, t4, t5⟩ := h3
      refine hQ I2 _ _ _ (fun a ha hb => by rw [f1 a (by omega)]; exact h1 a ha hb) (h2.tail (fun a ha hb => f1 a (by omega))) (hres t3 t4 f4) ⟨by rw [f2 3 (by decide)]; exact t5, ?_⟩
      cases m with
      | none => exact Or.inl ⟨f3, rfl, rfl⟩
      | some s =>
        obtain ⟨a1, e, a2, a3⟩ := f4
        obtain ⟨z1, z2, z3, z4⟩ := (t1 s a1).2 e a2
        refine Or.inr ⟨s, a1, f3, ?_, ?_⟩
        · rw [f1 _ (by omega), z1]; dsimp only; rw [a2]; rfl
        · rw [f1 _ (by omega), z3]; dsimp only; rw [a2]; rfl
    | succ j ih =>
      intro n I1 E1 un1 hn h1 h2 h3
      rw [q_97_15]
      simp (disch := omega) only [q_97_0, q_97_1, q_97_4, q_97_5, q_97_8, q_97_9, q_97_10, q_97_13, q_97_14, q_97_16, q_97_17, q_97_20, q_97_21, q_97_22, q_97_25, q_97_28, q_97_29, q_97_30, q_97_33, q_97_36, q_97_37, q_97_40, q_97_41, q_97_44, q_97_45, q_97_48, q_97_49, q_97_52, q_97_55, q_97_58, q_97_61, q_97_62, q_97_63, q_97_66, q_97_69, q_97_72, q_97_e, va_rf_s, bz_0, bz_1, bz_ok, bb_ok, Nat.add_assoc, w_lt, w_add, w_sub, w_mul, w_div, em_def, w_eq, w_inT, ↓ilt_t, ↓ilt_f, ↓ieq_t, ↓ieq_f, ntT, w_b, w_ix, kx_v, kx_n, kl_n, kl_i, kl_r, kl_o, inA_i, inA_s, inA_b, inA_z, inA_l, inA_0, inA_4, inA_5, inA_6, inA_7, inA_8, inA_9, inA_10, al_0, al_1, al_2, al_4, al_5, al_98, bsP_2, bsP_3, wr_same, wr_wr, wr_ne, up_same, up_ne, Nat.reduceAdd, Int.reduceAdd, Int.reduceSub, Int.reduceMul, Int.reduceLT, Int.reduceLE, Int.reduceEq, Int.reduceNeg, Int.reduceToNat, Nat.reduceLT, Nat.reduceLeDiff, Nat.reduceEqDiff, ↓reduceIte, true_and, and_true, not_true_eq_false, not_false_eq_true, eq_self, or_true, true_or, or_false, false_or, if_true, if_false, Int.toNat_natCast, w_ite, Nat.add_zero, reduceCtorEq, ne_eq, v0, v1.1]
      refine sp_84 hV (hR.congr' hlo (fun a ha => ?_) h2.1) h2.2.1 h2.2.2.1 (by omega) (by omega) (fun I2 hp2 hk2 => ?_)
      · exact h1 a (by omega) (by omega)
      have hk3 := hk2 (by omega) (by omega)
      have hq2 := h2.trans hp2.vq
      have hf2 : ∀ a, (a < v ∨ v + 17 ≤ a) → (a < u ∨ u + 3 < a) → I2 a = I a := fun a ha hb => (hp2.1 a ha).trans (h1 a ha hb)
      have hw2 : WSt I2 u un1 E1 (wl_ rs n) (PW rs I2 v) := by
        obtain ⟨t1, t2, t3, t4, t5⟩ := h3
        refine ⟨fun s hs => ?_, fun s e he => ?_, t3, t4, by rw [hp2.1 u (by omega)]; exact t5⟩
        · rw [hp2.1 (u + 3) (by omega), hp2.1 (u + 1) (by omega), hp2.1 (u + 2) (by omega)]
          exact t1 s hs
        · obtain ⟨m, i, m1, m2, m3, m4, m5, m6⟩ := t2 s e he
          exact ⟨m, i, m1, m2, m3, m4, m5, Kn_vp hp2 m1 m6⟩
      cases hsd : T rs n with
      | none =>
        have e0 : (sd rs n).isSome = false := by
          unfold T at hsd
          cases hx : sd rs n with
          | none => rfl
          | some y => rw [hx] at hsd; cases hsd
        have etx : tx rs n = [] := by unfold tx; rw [hsd]; rfl
        rw [e0]
        have := ih (n + 1) I2 E1 un1 (by omega) hf2 hq2 (by
          show WSt I2 u un1 E1 (wl_ rs n ++ wds (tx rs n)) _
          rw [etx, show wds [] = [] from rfl, List.append_nil]; exact hw2)
        simp only [Int.natCast_add, Int.natCast_one] at this
        simp (disch := omega) only [q_97_0, q_97_1, q_97_4, q_97_5, q_97_8, q_97_9, q_97_10, q_97_13, q_97_14, q_97_16, q_97_17, q_97_20, q_97_21, q_97_22, q_97_25, q_97_28, q_97_29, q_97_30, q_97_33, q_97_36, q_97_37, q_97_40, q_97_41, q_97_44, q_97_45, q_97_48, q_97_49, q_97_52, q_97_55, q_97_58, q_97_61, q_97_62, q_97_63, q_97_66, q_97_69, q_97_72, q_97_e, va_rf_s, bz_0, bz_1, bz_ok, bb_ok, Nat.add_assoc, w_lt, w_add, w_sub, w_mul, w_div, em_def, w_eq, w_inT, ↓ilt_t, ↓ilt_f, ↓ieq_t, ↓ieq_f, ntT, w_b, w_ix, kx_v, kx_n, kl_n, kl_i, kl_r, kl_o, inA_i, inA_s, inA_b, inA_z, inA_l, inA_0, inA_4, inA_5, inA_6, inA_7, inA_8, inA_9, inA_10, al_0, al_1, al_2, al_4, al_5, al_98, bsP_2, bsP_3, wr_same, wr_wr, wr_ne, up_same, up_ne, Nat.reduceAdd, Int.reduceAdd, Int.reduceSub, Int.reduceMul, Int.reduceLT, Int.reduceLE, Int.reduceEq, Int.reduceNeg, Int.reduceToNat, Nat.reduceLT, Nat.reduceLeDiff, Nat.reduceEqDiff, ↓reduceIte, true_and, and_true, not_true_eq_false, not_false_eq_true, eq_self, or_true, true_or, or_false, false_or, if_true, if_false, Int.toNat_natCast, w_ite, Nat.add_zero, reduceCtorEq, ne_eq, bz_f]
        exact this
      | some t =>
        have e0 : (sd rs n).isSome = true := by
          unfold T at hsd
          cases hx : sd rs n with
          | none => rw [hx] at hsd; cases hsd
          | some y => rfl
        have etx : tx rs n = t := by unfold tx; rw [hsd]; rfl
        have hSd := Kn.Sd hq2.2.1 hr hk3 (by omega) hsd
        have hb := hSd.2.2.2.2
        have s31 := fun {d : Nat} {Q : XO → Hp → Prop} => sp_31 (d := d) (Q := Q) (I := I2) (L := L) (R := R) (G := G) (a := v + 1) (n := (n : Int)) v1 (by omega) (by omega)
        have s32 := fun {d : Nat} {Q : XO → Hp → Prop} => sp_32t (d := d) (Q := Q) (I := I2) (L := L) (R := R) (G := G) v1 (by omega) (by omega) hSd
        have esl : slot (n : Int) * 100 = (n * 100 : Nat) := by unfold slot; rw [if_neg (by omega), if_neg (by omega)]; omega
        rw [esl] at s31
        rw [e0]
        simp (disch := omega) only [q_97_0, q_97_1, q_97_4, q_97_5, q_97_8, q_97_9, q_97_10, q_97_13, q_97_14, q_97_16, q_97_17, q_97_20, q_97_21, q_97_22, q_97_25, q_97_28, q_97_29, q_97_30, q_97_33, q_97_36, q_97_37, q_97_40, q_97_41, q_97_44, q_97_45, q_97_48, q_97_49, q_97_52, q_97_55, q_97_58, q_97_61, q_97_62, q_97_63, q_97_66, q_97_69, q_97_72, q_97_e, va_rf_s, bz_0, bz_1, bz_ok, bb_ok, Nat.add_assoc, w_lt, w_add, w_sub, w_mul, w_div, em_def, w_eq, w_inT, ↓ilt_t, ↓ilt_f, ↓ieq_t, ↓ieq_f, ntT, w_b, w_ix, kx_v, kx_n, kl_n, kl_i, kl_r, kl_o, inA_i, inA_s, inA_b, inA_z, inA_l, inA_0, inA_4, inA_5, inA_6, inA_7, inA_8, inA_9, inA_10, al_0, al_1, al_2, al_4, al_5, al_98, bsP_2, bsP_3, wr_same, wr_wr, wr_ne, up_same, up_ne, Nat.reduceAdd, Int.reduceAdd, Int.reduceSub, Int.reduceMul, Int.reduceLT, Int.reduceLE, Int.reduceEq, Int.reduceNeg, Int.reduceToNat, Nat.reduceLT, Nat.reduceLeDiff, Nat.reduceEqDiff, ↓reduceIte, true_and, and_true, not_true_eq_false, not_false_eq_true, eq_self, or_true, true_or, or_false, false_or, if_true, if_false, Int.toNat_natCast, w_ite, Nat.add_zero, reduceCtorEq, ne_eq, bz_t, v0, v1.1, s31, s32, g0]
        have hT3 := hSd.2.2.2.1
        rw [sl_small (by omega) (by omega)] at hT3
        refine sp_98 (b := v + 2) (n1 := 115200) (p := n * 100) (P := PW rs I2 v) (t := t) hS hbS (by decide) (by omega) (fun i x hi hx => ⟨n, i, by omega, rfl, by rw [etx]; exact hi, by rw [etx]; exact hx, by rw [hsd]; rfl, hk3⟩) (fun y q hy => PW_ok hq2.2.1 hr hy) (by have := hSd.2.2.1; omega) hT3 (fun c hc => by have := hb.bd c hc; rcases hb c hc with h | h <;> omega) ?_ hw2 (fun I3 E3 un3 f1 f2 => ?_)
        · have : wl_ rs n ++ wds t = wl_ rs (n + 1) := by show _ = wl_ rs n ++ wds (tx rs n); rw [etx]
          rw [this]
          exact ⟨by have := wl_sum hr (n + 1); omega, wl_ok hr _⟩
        · have hq3 := hq2.tail (I2 := I3) (fun a ha hb => f1 a (by omega))
          obtain ⟨t1, t2, t3, t4, t5⟩ := f2
          have := ih (n + 1) I3 E3 un3 (by omega) (fun a ha hb => (f1 a hb).trans (hf2 a ha hb)) hq3 (by
            show WSt I3 u un3 E3 (wl_ rs n ++ wds (tx rs n)) _
            rw [etx]
            refine ⟨t1, fun s e he => ?_, t3, t4, t5⟩
            obtain ⟨m, i, m1, m2, m3, m4, m5, m6⟩ := t2 s e he
            exact ⟨m, i, m1, m2, m3, m4, m5, Kn_congr (f1 _ (by omega)) m6⟩)
          simp only [Int.natCast_add, Int.natCast_one] at this
          simp (disch := omega) only [q_97_0, q_97_1, q_97_4, q_97_5, q_97_8, q_97_9, q_97_10, q_97_13, q_97_14, q_97_16, q_97_17, q_97_20, q_97_21, q_97_22, q_97_25, q_97_28, q_97_29, q_97_30, q_97_33, q_97_36, q_97_37, q_97_40, q_97_41, q_97_44, q_97_45, q_97_48, q_97_49, q_97_52, q_97_55, q_97_58, q_97_61, q_97_62, q_97_63, q_97_66, q_97_69, q_97_72, q_97_e, va_rf_s, bz_0, bz_1, bz_ok, bb_ok, Nat.add_assoc, w_lt, w_add, w_sub, w_mul, w_div, em_def, w_eq, w_inT, ↓ilt_t, ↓ilt_f, ↓ieq_t, ↓ieq_f, ntT, w_b, w_ix, kx_v, kx_n, kl_n, kl_i, kl_r, kl_o, inA_i, inA_s, inA_b, inA_z, inA_l, inA_0, inA_4, inA_5, inA_6, inA_7, inA_8, inA_9, inA_10, al_0, al_1, al_2, al_4, al_5, al_98, bsP_2, bsP_3, wr_same, wr_wr, wr_ne, up_same, up_ne, Nat.reduceAdd, Int.reduceAdd, Int.reduceSub, Int.reduceMul, Int.reduceLT, Int.reduceLE, Int.reduceEq, Int.reduceNeg, Int.reduceToNat, Nat.reduceLT, Nat.reduceLeDiff, Nat.reduceEqDiff, ↓reduceIte, true_and, and_true, not_true_eq_false, not_false_eq_true, eq_self, or_true, true_or, or_false, false_or, if_true, if_false, Int.toNat_natCast, w_ite, Nat.add_zero, reduceCtorEq, ne_eq]
          exact this
  have s269 := fun {d : Nat} {Q : XO → Hp → Prop} => sp_269 (d := d) (Q := Q) (I := I) (L := L) (R := R) (G := G) (x := w 0) g3 (by decide)
  have := lp (h + 1) 0 (wr (wr I (u + 3) (mix (I (u + 3)) (fun _ => w 0) 32768)) u (up (I u) 3 (w 0))) (fun _ => none) 0 (by omega) (fun a ha hb => by rw [wr_ne (by omega), wr_ne (by omega)]) (vq.same hM hU (fun a ha hb => by rw [wr_ne (by omega), wr_ne (by omega)])) ⟨fun s hs => ⟨fun _ => by rw [wr_ne (by omega), wr_same]; unfold mix; rw [if_pos hs], fun e he => by cases he⟩, (fun s e he => by cases he), ⟨(fun s e he => by cases he), (fun x hx => nomatch hx), (fun s s' e e' he => by cases he)⟩, ⟨[], List.nodup_nil, fun x => Iff.rfl, rfl⟩, by rw [wr_same, up_same]; rfl⟩
  simp only [Int.natCast_zero] at this
  simp (disch := omega) only [q_97_0, q_97_1, q_97_4, q_97_5, q_97_8, q_97_9, q_97_10, q_97_13, q_97_14, q_97_16, q_97_17, q_97_20, q_97_21, q_97_22, q_97_25, q_97_28, q_97_29, q_97_30, q_97_33, q_97_36, q_97_37, q_97_40, q_97_41, q_97_44, q_97_45, q_97_48, q_97_49, q_97_52, q_97_55, q_97_58, q_97_61, q_97_62, q_97_63, q_97_66, q_97_69, q_97_72, q_97_e, va_rf_s, bz_0, bz_1, bz_ok, bb_ok, Nat.add_assoc, w_lt, w_add, w_sub, w_mul, w_div, em_def, w_eq, w_inT, ↓ilt_t, ↓ilt_f, ↓ieq_t, ↓ieq_f, ntT, w_b, w_ix, kx_v, kx_n, kl_n, kl_i, kl_r, kl_o, inA_i, inA_s, inA_b, inA_z, inA_l, inA_0, inA_4, inA_5, inA_6, inA_7, inA_8, inA_9, inA_10, al_0, al_1, al_2, al_4, al_5, al_98, bsP_2, bsP_3, wr_same, wr_wr, wr_ne, up_same, up_ne, Nat.reduceAdd, Int.reduceAdd, Int.reduceSub, Int.reduceMul, Int.reduceLT, Int.reduceLE, Int.reduceEq, Int.reduceNeg, Int.reduceToNat, Nat.reduceLT, Nat.reduceLeDiff, Nat.reduceEqDiff, ↓reduceIte, true_and, and_true, not_true_eq_false, not_false_eq_true, eq_self, or_true, true_or, or_false, false_or, if_true, if_false, Int.toNat_natCast, w_ite, Nat.add_zero, reduceCtorEq, ne_eq, g0, s269]
  exact this
end

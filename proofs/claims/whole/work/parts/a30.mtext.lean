/-! the model reads a text -/
def RdF (I I' : MI) (m : Nat) : Prop := (∀ x, x ≠ m → x ≠ m + 3 → (x < m + 69 ∨ m + 99 ≤ x) → (x < m + 1268 ∨ m + 1477 ≤ x) → I' x = I x) ∧ (∀ j, j ≠ 2 → I' (m + 3) j = I (m + 3) j) ∧ ∀ j, j ≠ 2 → j ≠ 3 → j ≠ 4 → j ≠ 6 → j ≠ 7 → I' m j = I m j
theorem RdF.trans {I I1 I2 : MI} {m : Nat} (h : RdF I I1 m) (h' : RdF I1 I2 m) : RdF I I2 m := ⟨fun x a b c d => (h'.1 x a b c d).trans (h.1 x a b c d), fun j hj => (h'.2.1 j hj).trans (h.2.1 j hj), fun j a b c d e => (h'.2.2 j a b c d e).trans (h.2.2 j a b c d e)⟩
theorem PmF.rd {I I' : MI} {m : Nat} (h : PmF I I' m) : RdF I I' m := ⟨fun x a _ _ _ => h.1 x a, fun j _ => by rw [h.1 _ (by omega)], fun j _ _ c d e => h.2 j c d e⟩
theorem PrF.rd {I I' : MI} {m k : Nat} (h : PrF I I' m k) (hk : k < 30) : RdF I I' m := ⟨fun x a b c d => h.1 x a b (by omega) (by omega), h.2.2, fun j _ _ c d e => h.2.1 j c d e⟩
theorem StF.rd {I I' : MI} {m : Nat} (h : StF I I' m 2) : RdF I I' m := ⟨fun x a b c d => h.1 x b (by omega) (by omega), h.2, fun j _ _ _ _ _ => by rw [h.1 m (by omega) (by omega) (by omega)]⟩
theorem RsM.rd {I I' : MI} {m s : Nat} {rs : List Rl} (h : RsM I m s rs) (hF : RdF I I' m) (hs : s < 27) (hne : s ≠ 2) : RsM I' m s rs := by
  have h30 := h.2.1
  exact ⟨by rw [hF.2.1 s hne]; exact h.1, h.2.1, fun k hk => (h.2.2 k hk).congr (hF.1 _ (by omega) (by omega) (by omega) (by omega)) (fun i hi => hF.1 _ (by omega) (by omega) (by omega) (by omega))⟩
theorem RdF.mfr {I I' : MI} {L : ML} {m : Nat} (h : RdF I I' m) : MFr I L I' L m := fun a ha => ⟨h.1 a (by omega) (by omega) (by omega) (by omega), rfl⟩
theorem HkF.mfr {I I' : MI} {L : ML} {m : Nat} (h : HkF I I' m) : MFr I L I' L m := fun a ha => ⟨h.1 a (by omega) (by omega) (by omega) (by omega), rfl⟩
theorem StF.mfr {I I' : MI} {L : ML} {m s : Nat} (h : StF I I' m s) (hs : s < 27) : MFr I L I' L m := fun a ha => ⟨h.1 a (by omega) (by omega) (by omega), rfl⟩
theorem bt_m {t : List Int} {p : Nat} (h : ∀ b ∈ t, 0 ≤ b ∧ b < 256) : bt t p = -1 ↔ t.length ≤ p := by
  unfold bt
  split
  · rename_i hp
    have := h (t.getD p 0) (by rw [List.getD_eq_getElem?_getD, List.getElem?_eq_getElem hp]; exact List.getElem_mem hp)
    omega
  · omega
section
variable {d : Nat} {Q : XO → Hp → Prop} {S : SH} {I : MI} {L : ML} {R : MR} {G : MG} {A : Hp}
variable {m : Nat} {s : St} {two : Bool}
theorem MS.rd {I' : MI} {v : Int} (h : MS S I R G m s) (hF : RdF I I' m) (h2 : I' m 2 = w 0) : MS S (wr I' m (up (I' m) 5 (w v))) R G m ([], s.2.1, s.2.2.1, v, s.2.2.2.2.1, s.2.2.2.2.2) := by
  obtain ⟨a1, a2, a3, a4, a5, a6, a7, ⟨b1, b2, b3⟩, a9⟩ := h
  have u0 : ∀ x, x ≠ m → wr I' m (up (I' m) 5 (w v)) x = I' x := fun x hx => wr_ne hx
  have u1 : ∀ j, j ≠ 5 → wr I' m (up (I' m) 5 (w v)) m j = I' m j := fun j hj => by rw [wr_same, up_ne hj]
  have kp : ∀ s rs, s < 27 → s ≠ 2 → RsM I m s rs → RsM (wr I' m (up (I' m) 5 (w v))) m s rs := fun s rs hs hs2 hR => by
    have hR' := hR.rd hF hs hs2
    have h30 := hR'.2.1
    exact ⟨by rw [u0 _ (by omega)]; exact hR'.1, h30, fun k hk => (hR'.2.2 k hk).congr (u0 _ (by omega)) (fun i hi => u0 _ (by omega))⟩
  refine ⟨a1, a2, ?_, ⟨by rw [u1 2 (by decide)]; exact h2, Nat.zero_le _, (fun i hi => nomatch hi), (fun b hb => nomatch hb)⟩, by rw [wr_same, up_same], by rw [u1 13 (by decide), hF.2.2 13 (by decide) (by decide) (by decide) (by decide) (by decide)]; exact a6, fun l hl => kp l _ (by omega) (by omega) (a7 l hl), ⟨by rw [u1 14 (by decide), hF.2.2 14 (by decide) (by decide) (by decide) (by decide) (by decide)]; exact b1, b2, fun j hj => ?_⟩, a9.keep (by rw [u1 22 (by decide), hF.2.2 22 (by decide) (by decide) (by decide) (by decide) (by decide)]) (by rw [u0 _ (by omega), hF.1 _ (by omega) (by omega) (by omega) (by omega)]) (by rw [u0 _ (by omega), hF.1 _ (by omega) (by omega) (by omega) (by omega)]) (by rw [u0 _ (by omega), hF.1 _ (by omega) (by omega) (by omega) (by omega)])⟩
  · rw [u0 _ (by omega), hF.1 (m + 1) (by omega) (by omega) (by omega) (by omega)]; exact a3
  · dsimp only at hj ⊢
    obtain ⟨c1, c2, c3⟩ := b3 j hj
    exact ⟨by rw [u0 _ (by omega), hF.1 (m + 4) (by omega) (by omega) (by omega) (by omega)]; exact c1, c2, fun l hl => kp _ _ (by omega) (by omega) (c3 l hl)⟩
theorem MS.lang {I' : MI} {l : Nat} {rs : List Rl} (h : MS S I R G m s) (hF : StF I I' m l) (hl : l < 2) (hR : RsM I' m l rs) (h22 : I m 22 = w (-1)) : MS S I' R G m (setB s (setL s.2.1 l rs)) := by
  obtain ⟨a1, a2, a3, a4, a5, a6, a7, ⟨b1, b2, b3⟩, a9⟩ := h
  have em : I' m = I m := hF.1 m (by omega) (by omega) (by omega)
  refine ⟨a1, a2, ?_, ?_, by rw [em]; exact a5, by rw [em]; exact a6, fun l' hl' => ?_, ⟨by rw [em]; exact b1, b2, fun j hj => ?_⟩, Or.inl (by rw [em]; exact h22)⟩
  · rw [hF.1 (m + 1) (by omega) (by omega) (by omega)]; exact a3
  · rw [hF.1 (m + 2) (by omega) (by omega) (by omega), em]; exact a4
  · show RsM I' m l' (if l' = l then rs else s.2.1.2 l')
    by_cases e : l' = l
    · rw [if_pos e, e]; exact hR
    · rw [if_neg e]; exact (a7 l' hl').st hF (by omega) (by omega) e
  · obtain ⟨c1, c2, c3⟩ := b3 j hj
    exact ⟨by rw [hF.1 (m + 4) (by omega) (by omega) (by omega)]; exact c1, c2, fun l' hl' => (c3 l' hl').st hF (by omega) (by omega) (by omega)⟩
theorem MK.from' {I1 : MI} {L1 : ML} {r : Res} (hk : MK S I L R G m Q two r) (hF : MFr I L I1 L1 m) : MK S I1 L1 R G m Q two r := fun I' L' o a b c => hk I' L' o a (hF.trans b) c
theorem PM.f5 {t : List Int} {p : Nat} {e : Int × Int} {x : Int32} (h : PM I m t p e) : PM (wr I m (up (I m) 5 x)) m t p e := by
  obtain ⟨a1, a2, a3, a4, a5, a6, a7, a8, a9⟩ := h
  have u1 : ∀ j, j ≠ 5 → wr I m (up (I m) 5 x) m j = I m j := fun j hj => by rw [wr_same, up_ne hj]
  exact ⟨by rw [u1 _ (by decide)]; exact a1, by rw [wr_ne (by omega)]; exact a2, a3, a4, by rw [u1 _ (by decide)]; exact a5, a6, by rw [u1 _ (by decide)]; exact a7, by rw [u1 _ (by decide)]; exact a8, a9⟩
theorem sp_175 {n z : Int} (h : MS S I R G m s) (hst : StrM S I G m) (hn : 0 ≤ n ∧ n ≤ s.1.length) (hz : z = 0 ∨ z = 1) (h0 : I m 0 = w 0) (hQ : MK S I L R G m Q two (rText s n z)) : XC (d + 7) 175 [.ref m, .int (w n), .int (w z)] (mk S I L R G) Q := by
  have hL := h.1
  have hm := hL.1
  have hS3 := hL.2.2.2.1
  obtain ⟨t2, t400, tT, tb⟩ := h.2.2.2.1
  unfold rText at hQ
  rw [if_pos hn] at hQ
  have hlen : (s.1.take n.toNat).length = n.toNat := by rw [List.length_take]; omega
  have hT : Txt (I (m + 2)) 0 (s.1.take n.toNat) := by
    intro i hi
    rw [hlen] at hi
    rw [tT i (by omega)]
    simp only [List.getD_eq_getElem?_getD, List.getElem?_take]
    rw [if_pos hi]
  have htb : ∀ b ∈ s.1.take n.toNat, 0 ≤ b ∧ b < 256 := fun b hb => tb b (List.mem_of_mem_take hb)
  have hl4 : (s.1.take n.toNat).length ≤ 400 := by omega
  have en : ((s.1.take n.toNat).length : Int) = n := by omega
  generalize s.1.take n.toNat = t at *
  -- a fault, at the end
  have f81 : ∀ (I1 : MI) (p1 : Nat) (e : Int × Nat) (l : Int), pText t (troom s z) = .inr e → PM I1 m t p1 (e.1, (e.2 : Int)) → RdF I I1 m → I1 m 2 = w 0 → XX (d + 7) 175 81 [some (.ref m), some (.int (w n)), some (.int (w z)), some (.int (w l))] [] (mk S I1 L R G) Q := by
    intro I1 p1 e l he hP hF h2
    rw [he] at hQ
    dsimp only at hQ
    have hb := pText_bad he
    have hne : (e.1, (e.2 : Int)).1 ≠ 0 := by have := hb.1; dsimp only; omega
    have e7 : I1 m 7 = w e.2 := hP.2.2.2.2.2.2.2.1
    have e6 : I1 m 6 = w e.1 := hP.2.2.2.2.2.2.1
    have b1 := hb.1
    have b2 := hb.2.1
    have s160 := fun {d : Nat} {Q : XO → Hp → Prop} => sp_160f (d := d) (Q := Q) (L := L) (G := G) hL (hP.f5 (x := w e.2)) hne
    have := hQ.ans (h.rd hF h2) (by rw [wr_same, up_ne (by decide), hF.2.2 0 (by decide) (by decide) (by decide) (by decide) (by decide)]; exact h0) ((hF.mfr (L := L)).trans (fun a ha => ⟨wr_ne (by omega), rfl⟩))
    rw [q_175_81]
    simp (disch := omega) only [q_175_0, q_175_1, q_175_2, q_175_5, q_175_6, q_175_7, q_175_10, q_175_11, q_175_12, q_175_15, q_175_16, q_175_17, q_175_20, q_175_21, q_175_22, q_175_25, q_175_26, q_175_28, q_175_31, q_175_32, q_175_33, q_175_34, q_175_37, q_175_38, q_175_39, q_175_42, q_175_43, q_175_46, q_175_47, q_175_48, q_175_49, q_175_50, q_175_53, q_175_54, q_175_55, q_175_56, q_175_60, q_175_63, q_175_66, q_175_67, q_175_70, q_175_71, q_175_74, q_175_75, q_175_78, q_175_82, q_175_83, q_175_86, q_175_89, q_175_90, q_175_93, q_175_96, q_175_97, q_175_100, q_175_102, q_175_103, q_175_104, q_175_105, q_175_108, q_175_109, q_175_110, q_175_111, q_175_114, q_175_115, q_175_118, q_175_119, q_175_120, q_175_e, va_rf_s, bz_0, bz_1, bz_ok, bb_ok, Nat.add_assoc, w_lt, w_add, w_sub, w_mul, w_div, em_def, w_eq, w_inT, ↓ilt_t, ↓ilt_f, ↓ieq_t, ↓ieq_f, ntT, w_b, w_ix, kx_v, kx_n, kl_n, kl_i, kl_r, kl_o, inA_i, inA_s, inA_b, inA_z, inA_l, inA_0, inA_4, inA_5, inA_6, inA_7, inA_8, inA_9, inA_10, al_0, al_1, al_2, al_4, al_5, al_98, bsP_2, bsP_3, wr_same, wr_wr, wr_ne, up_same, up_ne, Nat.reduceAdd, Int.reduceAdd, Int.reduceSub, Int.reduceMul, Int.reduceLT, Int.reduceLE, Int.reduceEq, Int.reduceNeg, Int.reduceToNat, Nat.reduceLT, Nat.reduceLeDiff, Nat.reduceEqDiff, ↓reduceIte, true_and, and_true, not_true_eq_false, not_false_eq_true, eq_self, or_true, true_or, or_false, false_or, if_true, if_false, Int.toNat_natCast, w_ite, Nat.add_zero, reduceCtorEq, ne_eq, hm, e7, e6, s160]
    exact this
  -- a fault in the head
  have f42 : ∀ (I1 : MI) (p1 : Nat) (e : Int × Nat) (l : Nat), l < 2 → pText t (troom s z) = .inr e → PM I1 m t p1 (e.1, (e.2 : Int)) → RdF I I1 m → I1 m 2 = w 0 → XX (d + 7) 175 42 [some (.ref m), some (.int (w n)), some (.int (w z)), some (.int (w l))] [] (mk S I1 L R G) Q := by
    intro I1 p1 e l hl he hP hF h2
    have hb := pText_bad he
    have hne : (e.1, (e.2 : Int)).1 ≠ 0 := by have := hb.1; dsimp only; omega
    have f59 : ∀ I2 : MI, PM I2 m t p1 (e.1, (e.2 : Int)) → RdF I I2 m → I2 m 2 = w 0 → XX (d + 7) 175 59 [some (.ref m), some (.int (w n)), some (.int (w z)), some (.int (w l))] [] (mk S I2 L R G) Q := by
      intro I2 hP2 hF2 h22
      have s160 := fun {d : Nat} {Q : XO → Hp → Prop} => sp_160f (d := d) (Q := Q) (L := L) (G := G) hL hP2 hne
      have := f81 I2 p1 e l he hP2 hF2 h22
      rw [q_175_59]
      simp (disch := omega) only [q_175_0, q_175_1, q_175_2, q_175_5, q_175_6, q_175_7, q_175_10, q_175_11, q_175_12, q_175_15, q_175_16, q_175_17, q_175_20, q_175_21, q_175_22, q_175_25, q_175_26, q_175_28, q_175_31, q_175_32, q_175_33, q_175_34, q_175_37, q_175_38, q_175_39, q_175_42, q_175_43, q_175_46, q_175_47, q_175_48, q_175_49, q_175_50, q_175_53, q_175_54, q_175_55, q_175_56, q_175_60, q_175_63, q_175_66, q_175_67, q_175_70, q_175_71, q_175_74, q_175_75, q_175_78, q_175_82, q_175_83, q_175_86, q_175_89, q_175_90, q_175_93, q_175_96, q_175_97, q_175_100, q_175_102, q_175_103, q_175_104, q_175_105, q_175_108, q_175_109, q_175_110, q_175_111, q_175_114, q_175_115, q_175_118, q_175_119, q_175_120, q_175_e, va_rf_s, bz_0, bz_1, bz_ok, bb_ok, Nat.add_assoc, w_lt, w_add, w_sub, w_mul, w_div, em_def, w_eq, w_inT, ↓ilt_t, ↓ilt_f, ↓ieq_t, ↓ieq_f, ntT, w_b, w_ix, kx_v, kx_n, kl_n, kl_i, kl_r, kl_o, inA_i, inA_s, inA_b, inA_z, inA_l, inA_0, inA_4, inA_5, inA_6, inA_7, inA_8, inA_9, inA_10, al_0, al_1, al_2, al_4, al_5, al_98, bsP_2, bsP_3, wr_same, wr_wr, wr_ne, up_same, up_ne, Nat.reduceAdd, Int.reduceAdd, Int.reduceSub, Int.reduceMul, Int.reduceLT, Int.reduceLE, Int.reduceEq, Int.reduceNeg, Int.reduceToNat, Nat.reduceLT, Nat.reduceLeDiff, Nat.reduceEqDiff, ↓reduceIte, true_and, and_true, not_true_eq_false, not_false_eq_true, eq_self, or_true, true_or, or_false, false_or, if_true, if_false, Int.toNat_natCast, w_ite, Nat.add_zero, reduceCtorEq, ne_eq, hm, s160]
      exact this
    have u0 : ∀ x, x ≠ m + 3 → wr I1 (m + 3) (up (I1 (m + 3)) 2 (w 0)) x = I1 x := fun x hx => wr_ne hx
    have hF2 : RdF I (wr I1 (m + 3) (up (I1 (m + 3)) 2 (w 0))) m := hF.trans ⟨fun x a b c d => u0 x b, fun j hj => by rw [wr_same, up_ne hj], fun j _ _ _ _ _ => by rw [u0 _ (by omega)]⟩
    have hP2 : PM (wr I1 (m + 3) (up (I1 (m + 3)) 2 (w 0))) m t p1 (e.1, (e.2 : Int)) := hP.keep (u0 _ (by omega)) (u0 _ (by omega))
    have h22 : wr I1 (m + 3) (up (I1 (m + 3)) 2 (w 0)) m 2 = w 0 := by rw [u0 _ (by omega)]; exact h2
    rw [q_175_42]
    generalize hI2 : wr I1 (m + 3) (up (I1 (m + 3)) 2 (w 0)) = I2 at *
    rcases hz with rfl | rfl
    · simp (disch := omega) only [q_175_0, q_175_1, q_175_2, q_175_5, q_175_6, q_175_7, q_175_10, q_175_11, q_175_12, q_175_15, q_175_16, q_175_17, q_175_20, q_175_21, q_175_22, q_175_25, q_175_26, q_175_28, q_175_31, q_175_32, q_175_33, q_175_34, q_175_37, q_175_38, q_175_39, q_175_42, q_175_43, q_175_46, q_175_47, q_175_48, q_175_49, q_175_50, q_175_53, q_175_54, q_175_55, q_175_56, q_175_60, q_175_63, q_175_66, q_175_67, q_175_70, q_175_71, q_175_74, q_175_75, q_175_78, q_175_82, q_175_83, q_175_86, q_175_89, q_175_90, q_175_93, q_175_96, q_175_97, q_175_100, q_175_102, q_175_103, q_175_104, q_175_105, q_175_108, q_175_109, q_175_110, q_175_111, q_175_114, q_175_115, q_175_118, q_175_119, q_175_120, q_175_e, va_rf_s, bz_0, bz_1, bz_ok, bb_ok, Nat.add_assoc, w_lt, w_add, w_sub, w_mul, w_div, em_def, w_eq, w_inT, ↓ilt_t, ↓ilt_f, ↓ieq_t, ↓ieq_f, ntT, w_b, w_ix, kx_v, kx_n, kl_n, kl_i, kl_r, kl_o, inA_i, inA_s, inA_b, inA_z, inA_l, inA_0, inA_4, inA_5, inA_6, inA_7, inA_8, inA_9, inA_10, al_0, al_1, al_2, al_4, al_5, al_98, bsP_2, bsP_3, wr_same, wr_wr, wr_ne, up_same, up_ne, Nat.reduceAdd, Int.reduceAdd, Int.reduceSub, Int.reduceMul, Int.reduceLT, Int.reduceLE, Int.reduceEq, Int.reduceNeg, Int.reduceToNat, Nat.reduceLT, Nat.reduceLeDiff, Nat.reduceEqDiff, ↓reduceIte, true_and, and_true, not_true_eq_false, not_false_eq_true, eq_self, or_true, true_or, or_false, false_or, if_true, if_false, Int.toNat_natCast, w_ite, Nat.add_zero, reduceCtorEq, ne_eq, hm, hS3, hI2]
      exact f59 I2 hP2 hF2 h22
    · simp (disch := omega) only [q_175_0, q_175_1, q_175_2, q_175_5, q_175_6, q_175_7, q_175_10, q_175_11, q_175_12, q_175_15, q_175_16, q_175_17, q_175_20, q_175_21, q_175_22, q_175_25, q_175_26, q_175_28, q_175_31, q_175_32, q_175_33, q_175_34, q_175_37, q_175_38, q_175_39, q_175_42, q_175_43, q_175_46, q_175_47, q_175_48, q_175_49, q_175_50, q_175_53, q_175_54, q_175_55, q_175_56, q_175_60, q_175_63, q_175_66, q_175_67, q_175_70, q_175_71, q_175_74, q_175_75, q_175_78, q_175_82, q_175_83, q_175_86, q_175_89, q_175_90, q_175_93, q_175_96, q_175_97, q_175_100, q_175_102, q_175_103, q_175_104, q_175_105, q_175_108, q_175_109, q_175_110, q_175_111, q_175_114, q_175_115, q_175_118, q_175_119, q_175_120, q_175_e, va_rf_s, bz_0, bz_1, bz_ok, bb_ok, Nat.add_assoc, w_lt, w_add, w_sub, w_mul, w_div, em_def, w_eq, w_inT, ↓ilt_t, ↓ilt_f, ↓ieq_t, ↓ieq_f, ntT, w_b, w_ix, kx_v, kx_n, kl_n, kl_i, kl_r, kl_o, inA_i, inA_s, inA_b, inA_z, inA_l, inA_0, inA_4, inA_5, inA_6, inA_7, inA_8, inA_9, inA_10, al_0, al_1, al_2, al_4, al_5, al_98, bsP_2, bsP_3, wr_same, wr_wr, wr_ne, up_same, up_ne, Nat.reduceAdd, Int.reduceAdd, Int.reduceSub, Int.reduceMul, Int.reduceLT, Int.reduceLE, Int.reduceEq, Int.reduceNeg, Int.reduceToNat, Nat.reduceLT, Nat.reduceLeDiff, Nat.reduceEqDiff, ↓reduceIte, true_and, and_true, not_true_eq_false, not_false_eq_true, eq_self, or_true, true_or, or_false, false_or, if_true, if_false, Int.toNat_natCast, w_ite, Nat.add_zero, reduceCtorEq, ne_eq, hm, hS3, hI2]
      refine sp_174 (s1 := l) (s2 := 2) hL (by omega) (by decide) (by omega) ((h.2.2.2.2.2.2.1 l hl).rd hF2 (by omega) (by omega)) (fun I3 hF3 hR3 => ?_)
      have := f59 I3 (hP2.keep (hF3.1 _ (by omega) (by omega) (by omega)) (hF3.1 _ (by omega) (by omega) (by omega))) (hF2.trans hF3.rd) (by rw [hF3.1 _ (by omega) (by omega) (by omega)]; exact h22)
      simp (disch := omega) only [q_175_0, q_175_1, q_175_2, q_175_5, q_175_6, q_175_7, q_175_10, q_175_11, q_175_12, q_175_15, q_175_16, q_175_17, q_175_20, q_175_21, q_175_22, q_175_25, q_175_26, q_175_28, q_175_31, q_175_32, q_175_33, q_175_34, q_175_37, q_175_38, q_175_39, q_175_42, q_175_43, q_175_46, q_175_47, q_175_48, q_175_49, q_175_50, q_175_53, q_175_54, q_175_55, q_175_56, q_175_60, q_175_63, q_175_66, q_175_67, q_175_70, q_175_71, q_175_74, q_175_75, q_175_78, q_175_82, q_175_83, q_175_86, q_175_89, q_175_90, q_175_93, q_175_96, q_175_97, q_175_100, q_175_102, q_175_103, q_175_104, q_175_105, q_175_108, q_175_109, q_175_110, q_175_111, q_175_114, q_175_115, q_175_118, q_175_119, q_175_120, q_175_e, va_rf_s, bz_0, bz_1, bz_ok, bb_ok, Nat.add_assoc, w_lt, w_add, w_sub, w_mul, w_div, em_def, w_eq, w_inT, ↓ilt_t, ↓ilt_f, ↓ieq_t, ↓ieq_f, ntT, w_b, w_ix, kx_v, kx_n, kl_n, kl_i, kl_r, kl_o, inA_i, inA_s, inA_b, inA_z, inA_l, inA_0, inA_4, inA_5, inA_6, inA_7, inA_8, inA_9, inA_10, al_0, al_1, al_2, al_4, al_5, al_98, bsP_2, bsP_3, wr_same, wr_wr, wr_ne, up_same, up_ne, Nat.reduceAdd, Int.reduceAdd, Int.reduceSub, Int.reduceMul, Int.reduceLT, Int.reduceLE, Int.reduceEq, Int.reduceNeg, Int.reduceToNat, Nat.reduceLT, Nat.reduceLeDiff, Nat.reduceEqDiff, ↓reduceIte, true_and, and_true, not_true_eq_false, not_false_eq_true, eq_self, or_true, true_or, or_false, false_or, if_true, if_false, Int.toNat_natCast, w_ite, Nat.add_zero, reduceCtorEq, ne_eq]
      exact this
  -- the head is read
  have g42 : ∀ (I1 : MI) (p1 l : Nat), l < 2 → pHead t = .inl ((l : Int), p1) → PM I1 m t p1 (0, -1) → RdF I I1 m → I1 m 2 = w 0 → XX (d + 7) 175 42 [some (.ref m), some (.int (w n)), some (.int (w z)), some (.int (w l))] [] (mk S I1 L R G) Q := by
    intro I1 p1 l hl hhd hP hF h2
    have hpt : pText t (troom s z) = (match pRules t (troom s z l) 31 [] p1 with
      | .inr e => .inr e
      | .inl rs => .inl ((l : Int), rs)) := by
      unfold pText
      rw [hhd]
      rfl
    have hex30 : (s.2.1.2 l).length ≤ 30 := (h.2.2.2.2.2.2.1 l hl).2.1
    -- the rules
    have g59 : ∀ (ex : List Rl), ex = (if z = 1 then s.2.1.2 l else []) → ∀ I2 : MI, PM I2 m t p1 (0, -1) → RdF I I2 m → I2 m 2 = w 0 → RsM I2 m 2 ex → XX (d + 7) 175 59 [some (.ref m), some (.int (w n)), some (.int (w z)), some (.int (w l))] [] (mk S I2 L R G) Q := by
      intro ex eex I2 hP2 hF2 h22 hR2
      have hexl : ex.length ≤ 30 := hR2.2.1
      have hroom : troom s z l = 30 - ex.length := by
        unfold troom
        rw [eex]
        split
        · rfl
        · rfl
      -- done
      have done : ∀ (rs : List Rl) (I3 : MI) (p3 : Nat), pRules t (troom s z l) 31 [] p1 = .inl rs → PM I3 m t p3 (0, -1) → RdF I I3 m → I3 m 2 = w 0 → RsM I3 m 2 (ex ++ rs) → XX (d + 7) 175 81 [some (.ref m), some (.int (w n)), some (.int (w z)), some (.int (w l))] [] (mk S I3 L R G) Q := by
        intro rs I3 p3 hpr hP3 hF3 h23 hR3
        rw [hpr] at hpt
        dsimp only at hpt
        rw [hpt] at hQ
        dsimp only at hQ
        have e7 : I3 m 7 = w (-1) := hP3.2.2.2.2.2.2.2.1
        have s160 := fun {d : Nat} {Q : XO → Hp → Prop} => sp_160t (d := d) (Q := Q) (L := L) (G := G) hL (hP3.f5 (x := w (-1)))
        have hMS := h.rd (v := -1) hF3 h23
        have hR4 : RsM (wr I3 m (up (I3 m) 5 (w (-1)))) m 2 (ex ++ rs) := by
          have h30 := hR3.2.1
          exact ⟨by rw [wr_ne (by omega)]; exact hR3.1, h30, fun k hk => (hR3.2.2 k hk).congr (wr_ne (by omega)) (fun i hi => wr_ne (by omega))⟩
        have h04 : wr I3 m (up (I3 m) 5 (w (-1))) m 0 = w 0 := by rw [wr_same, up_ne (by decide), hF3.2.2 0 (by decide) (by decide) (by decide) (by decide) (by decide)]; exact h0
        have hM4 : MFr I L (wr I3 m (up (I3 m) 5 (w (-1)))) L m := (hF3.mfr (L := L)).trans (fun a ha => ⟨wr_ne (by omega), rfl⟩)
        rw [q_175_81]
        simp (disch := omega) only [q_175_0, q_175_1, q_175_2, q_175_5, q_175_6, q_175_7, q_175_10, q_175_11, q_175_12, q_175_15, q_175_16, q_175_17, q_175_20, q_175_21, q_175_22, q_175_25, q_175_26, q_175_28, q_175_31, q_175_32, q_175_33, q_175_34, q_175_37, q_175_38, q_175_39, q_175_42, q_175_43, q_175_46, q_175_47, q_175_48, q_175_49, q_175_50, q_175_53, q_175_54, q_175_55, q_175_56, q_175_60, q_175_63, q_175_66, q_175_67, q_175_70, q_175_71, q_175_74, q_175_75, q_175_78, q_175_82, q_175_83, q_175_86, q_175_89, q_175_90, q_175_93, q_175_96, q_175_97, q_175_100, q_175_102, q_175_103, q_175_104, q_175_105, q_175_108, q_175_109, q_175_110, q_175_111, q_175_114, q_175_115, q_175_118, q_175_119, q_175_120, q_175_e, va_rf_s, bz_0, bz_1, bz_ok, bb_ok, Nat.add_assoc, w_lt, w_add, w_sub, w_mul, w_div, em_def, w_eq, w_inT, ↓ilt_t, ↓ilt_f, ↓ieq_t, ↓ieq_f, ntT, w_b, w_ix, kx_v, kx_n, kl_n, kl_i, kl_r, kl_o, inA_i, inA_s, inA_b, inA_z, inA_l, inA_0, inA_4, inA_5, inA_6, inA_7, inA_8, inA_9, inA_10, al_0, al_1, al_2, al_4, al_5, al_98, bsP_2, bsP_3, wr_same, wr_wr, wr_ne, up_same, up_ne, Nat.reduceAdd, Int.reduceAdd, Int.reduceSub, Int.reduceMul, Int.reduceLT, Int.reduceLE, Int.reduceEq, Int.reduceNeg, Int.reduceToNat, Nat.reduceLT, Nat.reduceLeDiff, Nat.reduceEqDiff, ↓reduceIte, true_and, and_true, not_true_eq_false, not_false_eq_true, eq_self, or_true, true_or, or_false, false_or, if_true, if_false, Int.toNat_natCast, w_ite, Nat.add_zero, reduceCtorEq, ne_eq, hm, e7, s160]
        generalize wr I3 m (up (I3 m) 5 (w (-1))) = I4 at *
        refine hMS.keeps (fun I5 hF5 h5 e522 => ?_)
        have hR5 := hR4.hk hF5 (by decide)
        simp (disch := omega) only [q_175_0, q_175_1, q_175_2, q_175_5, q_175_6, q_175_7, q_175_10, q_175_11, q_175_12, q_175_15, q_175_16, q_175_17, q_175_20, q_175_21, q_175_22, q_175_25, q_175_26, q_175_28, q_175_31, q_175_32, q_175_33, q_175_34, q_175_37, q_175_38, q_175_39, q_175_42, q_175_43, q_175_46, q_175_47, q_175_48, q_175_49, q_175_50, q_175_53, q_175_54, q_175_55, q_175_56, q_175_60, q_175_63, q_175_66, q_175_67, q_175_70, q_175_71, q_175_74, q_175_75, q_175_78, q_175_82, q_175_83, q_175_86, q_175_89, q_175_90, q_175_93, q_175_96, q_175_97, q_175_100, q_175_102, q_175_103, q_175_104, q_175_105, q_175_108, q_175_109, q_175_110, q_175_111, q_175_114, q_175_115, q_175_118, q_175_119, q_175_120, q_175_e, va_rf_s, bz_0, bz_1, bz_ok, bb_ok, Nat.add_assoc, w_lt, w_add, w_sub, w_mul, w_div, em_def, w_eq, w_inT, ↓ilt_t, ↓ilt_f, ↓ieq_t, ↓ieq_f, ntT, w_b, w_ix, kx_v, kx_n, kl_n, kl_i, kl_r, kl_o, inA_i, inA_s, inA_b, inA_z, inA_l, inA_0, inA_4, inA_5, inA_6, inA_7, inA_8, inA_9, inA_10, al_0, al_1, al_2, al_4, al_5, al_98, bsP_2, bsP_3, wr_same, wr_wr, wr_ne, up_same, up_ne, Nat.reduceAdd, Int.reduceAdd, Int.reduceSub, Int.reduceMul, Int.reduceLT, Int.reduceLE, Int.reduceEq, Int.reduceNeg, Int.reduceToNat, Nat.reduceLT, Nat.reduceLeDiff, Nat.reduceEqDiff, ↓reduceIte, true_and, and_true, not_true_eq_false, not_false_eq_true, eq_self, or_true, true_or, or_false, false_or, if_true, if_false, Int.toNat_natCast, w_ite, Nat.add_zero, reduceCtorEq, ne_eq, hm]
        refine sp_174 (s1 := 2) (s2 := l) hL (by decide) (by omega) (by omega) hR5 (fun I6 hF6 hR6 => ?_)
        have h6 := h5.lang hF6 hl hR6 e522
        have e6l := hR6.1
        have hxx : (if z = 1 then rlz s (l : Int) else []) = ex := by rw [eex]; rfl
        rw [hxx] at hQ
        have e06 : I6 m 0 = w 0 := by rw [hF6.1 m (by omega) (by omega) (by omega), hF5.2.2 0 (by decide) (by decide)]; exact h04
        have hM6 : MFr I L I6 L m := (hM4.trans (hF5.mfr (L := L))).trans (hF6.mfr (by omega))
        have := hQ.ans h6 e06 hM6
        simp (disch := omega) only [q_175_0, q_175_1, q_175_2, q_175_5, q_175_6, q_175_7, q_175_10, q_175_11, q_175_12, q_175_15, q_175_16, q_175_17, q_175_20, q_175_21, q_175_22, q_175_25, q_175_26, q_175_28, q_175_31, q_175_32, q_175_33, q_175_34, q_175_37, q_175_38, q_175_39, q_175_42, q_175_43, q_175_46, q_175_47, q_175_48, q_175_49, q_175_50, q_175_53, q_175_54, q_175_55, q_175_56, q_175_60, q_175_63, q_175_66, q_175_67, q_175_70, q_175_71, q_175_74, q_175_75, q_175_78, q_175_82, q_175_83, q_175_86, q_175_89, q_175_90, q_175_93, q_175_96, q_175_97, q_175_100, q_175_102, q_175_103, q_175_104, q_175_105, q_175_108, q_175_109, q_175_110, q_175_111, q_175_114, q_175_115, q_175_118, q_175_119, q_175_120, q_175_e, va_rf_s, bz_0, bz_1, bz_ok, bb_ok, Nat.add_assoc, w_lt, w_add, w_sub, w_mul, w_div, em_def, w_eq, w_inT, ↓ilt_t, ↓ilt_f, ↓ieq_t, ↓ieq_f, ntT, w_b, w_ix, kx_v, kx_n, kl_n, kl_i, kl_r, kl_o, inA_i, inA_s, inA_b, inA_z, inA_l, inA_0, inA_4, inA_5, inA_6, inA_7, inA_8, inA_9, inA_10, al_0, al_1, al_2, al_4, al_5, al_98, bsP_2, bsP_3, wr_same, wr_wr, wr_ne, up_same, up_ne, Nat.reduceAdd, Int.reduceAdd, Int.reduceSub, Int.reduceMul, Int.reduceLT, Int.reduceLE, Int.reduceEq, Int.reduceNeg, Int.reduceToNat, Nat.reduceLT, Nat.reduceLeDiff, Nat.reduceEqDiff, ↓reduceIte, true_and, and_true, not_true_eq_false, not_false_eq_true, eq_self, or_true, true_or, or_false, false_or, if_true, if_false, Int.toNat_natCast, w_ite, Nat.add_zero, reduceCtorEq, ne_eq, hm, hS3, e6l]
        exact this
      obtain ⟨pR, hpR⟩ : ∃ pR, pR = pRules t (troom s z l) 31 [] p1 := ⟨_, rfl⟩
      have lp : ∀ (f p : Nat) (rs : List Rl) (I3 : MI), rs.length + f = 31 → (ex ++ rs).length ≤ 30 → PM I3 m t p (0, -1) → RdF I I3 m → I3 m 2 = w 0 → RsM I3 m 2 (ex ++ rs) → pRules t (troom s z l) f rs p = pR → XX (d + 7) 175 59 [some (.ref m), some (.int (w n)), some (.int (w z)), some (.int (w l))] [] (mk S I3 L R G) Q := by
        intro f
        induction f with
        | zero =>
          intro p rs I3 hf h30
          rw [List.length_append] at h30
          omega
        | succ f ih =>
          intro p rs I3 hf h30 hP3 hF3 h23 hR3 hres
          have s160 := fun {d : Nat} {Q : XO → Hp → Prop} => sp_160t (d := d) (Q := Q) (L := L) (G := G) hL hP3
          rw [q_175_59]
          simp (disch := omega) only [q_175_0, q_175_1, q_175_2, q_175_5, q_175_6, q_175_7, q_175_10, q_175_11, q_175_12, q_175_15, q_175_16, q_175_17, q_175_20, q_175_21, q_175_22, q_175_25, q_175_26, q_175_28, q_175_31, q_175_32, q_175_33, q_175_34, q_175_37, q_175_38, q_175_39, q_175_42, q_175_43, q_175_46, q_175_47, q_175_48, q_175_49, q_175_50, q_175_53, q_175_54, q_175_55, q_175_56, q_175_60, q_175_63, q_175_66, q_175_67, q_175_70, q_175_71, q_175_74, q_175_75, q_175_78, q_175_82, q_175_83, q_175_86, q_175_89, q_175_90, q_175_93, q_175_96, q_175_97, q_175_100, q_175_102, q_175_103, q_175_104, q_175_105, q_175_108, q_175_109, q_175_110, q_175_111, q_175_114, q_175_115, q_175_118, q_175_119, q_175_120, q_175_e, va_rf_s, bz_0, bz_1, bz_ok, bb_ok, Nat.add_assoc, w_lt, w_add, w_sub, w_mul, w_div, em_def, w_eq, w_inT, ↓ilt_t, ↓ilt_f, ↓ieq_t, ↓ieq_f, ntT, w_b, w_ix, kx_v, kx_n, kl_n, kl_i, kl_r, kl_o, inA_i, inA_s, inA_b, inA_z, inA_l, inA_0, inA_4, inA_5, inA_6, inA_7, inA_8, inA_9, inA_10, al_0, al_1, al_2, al_4, al_5, al_98, bsP_2, bsP_3, wr_same, wr_wr, wr_ne, up_same, up_ne, Nat.reduceAdd, Int.reduceAdd, Int.reduceSub, Int.reduceMul, Int.reduceLT, Int.reduceLE, Int.reduceEq, Int.reduceNeg, Int.reduceToNat, Nat.reduceLT, Nat.reduceLeDiff, Nat.reduceEqDiff, ↓reduceIte, true_and, and_true, not_true_eq_false, not_false_eq_true, eq_self, or_true, true_or, or_false, false_or, if_true, if_false, Int.toNat_natCast, w_ite, Nat.add_zero, reduceCtorEq, ne_eq, hm, s160]
          refine sp_159 hL hP3 (fun I4 hF4 hP4 => ?_)
          have hR4 : RsM I4 m 2 (ex ++ rs) := ⟨by rw [hF4.1 _ (by omega)]; exact hR3.1, h30, fun k hk => (hR3.2.2 k hk).congr (hF4.1 _ (by omega)) (fun i hi => hF4.1 _ (by omega))⟩
          have h24 : I4 m 2 = w 0 := by rw [hF4.2 2 (by decide) (by decide) (by decide)]; exact h23
          have hbb := hP4.bd (skb t p)
          have hbm := bt_m (t := t) (p := skb t p) htb
          unfold pRules at hres
          by_cases cend : t.length ≤ skb t p
          · rw [if_pos cend] at hres
            have := done rs I4 _ (hpR.symm.trans hres.symm) hP4 (hF3.trans hF4.rd) h24 hR4
            rw [hbm.mpr cend]
            simp (disch := omega) only [q_175_0, q_175_1, q_175_2, q_175_5, q_175_6, q_175_7, q_175_10, q_175_11, q_175_12, q_175_15, q_175_16, q_175_17, q_175_20, q_175_21, q_175_22, q_175_25, q_175_26, q_175_28, q_175_31, q_175_32, q_175_33, q_175_34, q_175_37, q_175_38, q_175_39, q_175_42, q_175_43, q_175_46, q_175_47, q_175_48, q_175_49, q_175_50, q_175_53, q_175_54, q_175_55, q_175_56, q_175_60, q_175_63, q_175_66, q_175_67, q_175_70, q_175_71, q_175_74, q_175_75, q_175_78, q_175_82, q_175_83, q_175_86, q_175_89, q_175_90, q_175_93, q_175_96, q_175_97, q_175_100, q_175_102, q_175_103, q_175_104, q_175_105, q_175_108, q_175_109, q_175_110, q_175_111, q_175_114, q_175_115, q_175_118, q_175_119, q_175_120, q_175_e, va_rf_s, bz_0, bz_1, bz_ok, bb_ok, Nat.add_assoc, w_lt, w_add, w_sub, w_mul, w_div, em_def, w_eq, w_inT, ↓ilt_t, ↓ilt_f, ↓ieq_t, ↓ieq_f, ntT, w_b, w_ix, kx_v, kx_n, kl_n, kl_i, kl_r, kl_o, inA_i, inA_s, inA_b, inA_z, inA_l, inA_0, inA_4, inA_5, inA_6, inA_7, inA_8, inA_9, inA_10, al_0, al_1, al_2, al_4, al_5, al_98, bsP_2, bsP_3, wr_same, wr_wr, wr_ne, up_same, up_ne, Nat.reduceAdd, Int.reduceAdd, Int.reduceSub, Int.reduceMul, Int.reduceLT, Int.reduceLE, Int.reduceEq, Int.reduceNeg, Int.reduceToNat, Nat.reduceLT, Nat.reduceLeDiff, Nat.reduceEqDiff, ↓reduceIte, true_and, and_true, not_true_eq_false, not_false_eq_true, eq_self, or_true, true_or, or_false, false_or, if_true, if_false, Int.toNat_natCast, w_ite, Nat.add_zero, reduceCtorEq, ne_eq]
            exact this
          · rw [if_neg cend] at hres
            have hbn : bt t (skb t p) ≠ -1 := fun h => cend (hbm.mp h)
            generalize bt t (skb t p) = bc at hbb hbn ⊢
            have hss : skb t (skb t p) = skb t p := skb_skb
            have hst4 : StrM S I4 G m := hst.keep (fun a ha => (hF3.trans hF4.rd).1 a (by omega) (by omega) (by omega) (by omega))
            have hsl := hP4.2.2.2.2.2.1
            simp (disch := omega) only [q_175_0, q_175_1, q_175_2, q_175_5, q_175_6, q_175_7, q_175_10, q_175_11, q_175_12, q_175_15, q_175_16, q_175_17, q_175_20, q_175_21, q_175_22, q_175_25, q_175_26, q_175_28, q_175_31, q_175_32, q_175_33, q_175_34, q_175_37, q_175_38, q_175_39, q_175_42, q_175_43, q_175_46, q_175_47, q_175_48, q_175_49, q_175_50, q_175_53, q_175_54, q_175_55, q_175_56, q_175_60, q_175_63, q_175_66, q_175_67, q_175_70, q_175_71, q_175_74, q_175_75, q_175_78, q_175_82, q_175_83, q_175_86, q_175_89, q_175_90, q_175_93, q_175_96, q_175_97, q_175_100, q_175_102, q_175_103, q_175_104, q_175_105, q_175_108, q_175_109, q_175_110, q_175_111, q_175_114, q_175_115, q_175_118, q_175_119, q_175_120, q_175_e, va_rf_s, bz_0, bz_1, bz_ok, bb_ok, Nat.add_assoc, w_lt, w_add, w_sub, w_mul, w_div, em_def, w_eq, w_inT, ↓ilt_t, ↓ilt_f, ↓ieq_t, ↓ieq_f, ntT, w_b, w_ix, kx_v, kx_n, kl_n, kl_i, kl_r, kl_o, inA_i, inA_s, inA_b, inA_z, inA_l, inA_0, inA_4, inA_5, inA_6, inA_7, inA_8, inA_9, inA_10, al_0, al_1, al_2, al_4, al_5, al_98, bsP_2, bsP_3, wr_same, wr_wr, wr_ne, up_same, up_ne, Nat.reduceAdd, Int.reduceAdd, Int.reduceSub, Int.reduceMul, Int.reduceLT, Int.reduceLE, Int.reduceEq, Int.reduceNeg, Int.reduceToNat, Nat.reduceLT, Nat.reduceLeDiff, Nat.reduceEqDiff, ↓reduceIte, true_and, and_true, not_true_eq_false, not_false_eq_true, eq_self, or_true, true_or, or_false, false_or, if_true, if_false, Int.toNat_natCast, w_ite, Nat.add_zero, reduceCtorEq, ne_eq, hm]
            refine sp_172 (k := (ex ++ rs).length) (rm := troom s z l) (rs := rs) hL hst4 h30 (by rw [hroom, List.length_append] at *; omega) hP4 hR4.1 (fun q ρ q2 hkw hk hpr I5 hF5 hP5 hR5 e5 => ?_) (fun e he I5 p5 hF5 hP5 => ?_)
            · rw [hss] at hkw
              rw [List.length_append] at hk
              rw [hkw] at hres
              dsimp only at hres
              rw [if_neg (by rw [hroom]; omega), hpr] at hres
              dsimp only at hres
              have hll : (ex ++ (rs ++ [ρ])).length = (ex ++ rs).length + 1 := by simp only [List.length_append, List.length_cons, List.length_nil]; omega
              have hxl : (ex ++ rs).length < 30 := by rw [List.length_append]; omega
              have := ih q2 (rs ++ [ρ]) I5 (by rw [List.length_append, List.length_cons, List.length_nil]; omega) (by omega) hP5 ((hF3.trans hF4.rd).trans (hF5.rd hxl)) (by rw [hF5.2.1 2 (by decide) (by decide) (by decide)]; exact h24) ⟨by rw [e5, hll], by omega, fun k hk => by
                rw [hll] at hk
                rw [← List.append_assoc]
                by_cases e : k = (ex ++ rs).length
                · have : ((ex ++ rs) ++ [ρ]).getD k rd0 = ρ := by rw [e, List.getD_eq_getElem?_getD, List.getElem?_append_right (Nat.le_refl _), Nat.sub_self]; rfl
                  rw [this, e]; exact hR5
                · have : ((ex ++ rs) ++ [ρ]).getD k rd0 = (ex ++ rs).getD k rd0 := by rw [List.getD_eq_getElem?_getD, List.getElem?_append_left (by omega), ← List.getD_eq_getElem?_getD]
                  rw [this]
                  exact (hR4.2.2 k (by omega)).congr (hF5.1 _ (by omega) (by omega) (by omega) (by omega)) (fun i hi => hF5.1 _ (by omega) (by omega) (by omega) (by omega))⟩ hres
              simp (disch := omega) only [q_175_0, q_175_1, q_175_2, q_175_5, q_175_6, q_175_7, q_175_10, q_175_11, q_175_12, q_175_15, q_175_16, q_175_17, q_175_20, q_175_21, q_175_22, q_175_25, q_175_26, q_175_28, q_175_31, q_175_32, q_175_33, q_175_34, q_175_37, q_175_38, q_175_39, q_175_42, q_175_43, q_175_46, q_175_47, q_175_48, q_175_49, q_175_50, q_175_53, q_175_54, q_175_55, q_175_56, q_175_60, q_175_63, q_175_66, q_175_67, q_175_70, q_175_71, q_175_74, q_175_75, q_175_78, q_175_82, q_175_83, q_175_86, q_175_89, q_175_90, q_175_93, q_175_96, q_175_97, q_175_100, q_175_102, q_175_103, q_175_104, q_175_105, q_175_108, q_175_109, q_175_110, q_175_111, q_175_114, q_175_115, q_175_118, q_175_119, q_175_120, q_175_e, va_rf_s, bz_0, bz_1, bz_ok, bb_ok, Nat.add_assoc, w_lt, w_add, w_sub, w_mul, w_div, em_def, w_eq, w_inT, ↓ilt_t, ↓ilt_f, ↓ieq_t, ↓ieq_f, ntT, w_b, w_ix, kx_v, kx_n, kl_n, kl_i, kl_r, kl_o, inA_i, inA_s, inA_b, inA_z, inA_l, inA_0, inA_4, inA_5, inA_6, inA_7, inA_8, inA_9, inA_10, al_0, al_1, al_2, al_4, al_5, al_98, bsP_2, bsP_3, wr_same, wr_wr, wr_ne, up_same, up_ne, Nat.reduceAdd, Int.reduceAdd, Int.reduceSub, Int.reduceMul, Int.reduceLT, Int.reduceLE, Int.reduceEq, Int.reduceNeg, Int.reduceToNat, Nat.reduceLT, Nat.reduceLeDiff, Nat.reduceEqDiff, ↓reduceIte, true_and, and_true, not_true_eq_false, not_false_eq_true, eq_self, or_true, true_or, or_false, false_or, if_true, if_false, Int.toNat_natCast, w_ite, Nat.add_zero, reduceCtorEq, ne_eq]
              exact this
            · rw [hss] at he
              have hr : pRules t (troom s z l) 31 [] p1 = .inr e := by
                rw [← hpR, ← hres]
                cases hkw : kw t kwSay (skb t p) with
                | none =>
                  rw [hkw] at he
                  dsimp only at he ⊢
                  rw [he]
                | some q =>
                  rw [hkw] at he
                  dsimp only at he ⊢
                  by_cases cr : troom s z l ≤ rs.length
                  · rw [if_pos cr] at he ⊢
                    rw [he]
                  · rw [if_neg cr] at he ⊢
                    rw [he]
              rw [hr] at hpt
              obtain ⟨k', hk', hF5'⟩ := hF5
              have hne : (e.1, (e.2 : Int)).1 ≠ 0 := by have := (pText_bad hpt).1; dsimp only; omega
              have s160 := fun {d : Nat} {Q : XO → Hp → Prop} => sp_160f (d := d) (Q := Q) (L := L) (G := G) hL hP5 hne
              have := f81 I5 p5 e l hpt hP5 ((hF3.trans hF4.rd).trans (hF5'.rd hk')) (by rw [hF5'.2.1 2 (by decide) (by decide) (by decide)]; exact h24)
              simp (disch := omega) only [q_175_0, q_175_1, q_175_2, q_175_5, q_175_6, q_175_7, q_175_10, q_175_11, q_175_12, q_175_15, q_175_16, q_175_17, q_175_20, q_175_21, q_175_22, q_175_25, q_175_26, q_175_28, q_175_31, q_175_32, q_175_33, q_175_34, q_175_37, q_175_38, q_175_39, q_175_42, q_175_43, q_175_46, q_175_47, q_175_48, q_175_49, q_175_50, q_175_53, q_175_54, q_175_55, q_175_56, q_175_60, q_175_63, q_175_66, q_175_67, q_175_70, q_175_71, q_175_74, q_175_75, q_175_78, q_175_82, q_175_83, q_175_86, q_175_89, q_175_90, q_175_93, q_175_96, q_175_97, q_175_100, q_175_102, q_175_103, q_175_104, q_175_105, q_175_108, q_175_109, q_175_110, q_175_111, q_175_114, q_175_115, q_175_118, q_175_119, q_175_120, q_175_e, va_rf_s, bz_0, bz_1, bz_ok, bb_ok, Nat.add_assoc, w_lt, w_add, w_sub, w_mul, w_div, em_def, w_eq, w_inT, ↓ilt_t, ↓ilt_f, ↓ieq_t, ↓ieq_f, ntT, w_b, w_ix, kx_v, kx_n, kl_n, kl_i, kl_r, kl_o, inA_i, inA_s, inA_b, inA_z, inA_l, inA_0, inA_4, inA_5, inA_6, inA_7, inA_8, inA_9, inA_10, al_0, al_1, al_2, al_4, al_5, al_98, bsP_2, bsP_3, wr_same, wr_wr, wr_ne, up_same, up_ne, Nat.reduceAdd, Int.reduceAdd, Int.reduceSub, Int.reduceMul, Int.reduceLT, Int.reduceLE, Int.reduceEq, Int.reduceNeg, Int.reduceToNat, Nat.reduceLT, Nat.reduceLeDiff, Nat.reduceEqDiff, ↓reduceIte, true_and, and_true, not_true_eq_false, not_false_eq_true, eq_self, or_true, true_or, or_false, false_or, if_true, if_false, Int.toNat_natCast, w_ite, Nat.add_zero, reduceCtorEq, ne_eq]
              rw [q_175_59]
              simp (disch := omega) only [q_175_0, q_175_1, q_175_2, q_175_5, q_175_6, q_175_7, q_175_10, q_175_11, q_175_12, q_175_15, q_175_16, q_175_17, q_175_20, q_175_21, q_175_22, q_175_25, q_175_26, q_175_28, q_175_31, q_175_32, q_175_33, q_175_34, q_175_37, q_175_38, q_175_39, q_175_42, q_175_43, q_175_46, q_175_47, q_175_48, q_175_49, q_175_50, q_175_53, q_175_54, q_175_55, q_175_56, q_175_60, q_175_63, q_175_66, q_175_67, q_175_70, q_175_71, q_175_74, q_175_75, q_175_78, q_175_82, q_175_83, q_175_86, q_175_89, q_175_90, q_175_93, q_175_96, q_175_97, q_175_100, q_175_102, q_175_103, q_175_104, q_175_105, q_175_108, q_175_109, q_175_110, q_175_111, q_175_114, q_175_115, q_175_118, q_175_119, q_175_120, q_175_e, va_rf_s, bz_0, bz_1, bz_ok, bb_ok, Nat.add_assoc, w_lt, w_add, w_sub, w_mul, w_div, em_def, w_eq, w_inT, ↓ilt_t, ↓ilt_f, ↓ieq_t, ↓ieq_f, ntT, w_b, w_ix, kx_v, kx_n, kl_n, kl_i, kl_r, kl_o, inA_i, inA_s, inA_b, inA_z, inA_l, inA_0, inA_4, inA_5, inA_6, inA_7, inA_8, inA_9, inA_10, al_0, al_1, al_2, al_4, al_5, al_98, bsP_2, bsP_3, wr_same, wr_wr, wr_ne, up_same, up_ne, Nat.reduceAdd, Int.reduceAdd, Int.reduceSub, Int.reduceMul, Int.reduceLT, Int.reduceLE, Int.reduceEq, Int.reduceNeg, Int.reduceToNat, Nat.reduceLT, Nat.reduceLeDiff, Nat.reduceEqDiff, ↓reduceIte, true_and, and_true, not_true_eq_false, not_false_eq_true, eq_self, or_true, true_or, or_false, false_or, if_true, if_false, Int.toNat_natCast, w_ite, Nat.add_zero, reduceCtorEq, ne_eq, hm, s160]
              exact this
      exact lp 31 p1 [] I2 rfl (by rw [List.append_nil]; exact hexl) hP2 hF2 h22 (by rw [List.append_nil]; exact hR2) hpR.symm
    have u0 : ∀ x, x ≠ m + 3 → wr I1 (m + 3) (up (I1 (m + 3)) 2 (w 0)) x = I1 x := fun x hx => wr_ne hx
    have hF2 : RdF I (wr I1 (m + 3) (up (I1 (m + 3)) 2 (w 0))) m := hF.trans ⟨fun x a b c d => u0 x b, fun j hj => by rw [wr_same, up_ne hj], fun j _ _ _ _ _ => by rw [u0 _ (by omega)]⟩
    have hP2 : PM (wr I1 (m + 3) (up (I1 (m + 3)) 2 (w 0))) m t p1 (0, -1) := hP.keep (u0 _ (by omega)) (u0 _ (by omega))
    have h22 : wr I1 (m + 3) (up (I1 (m + 3)) 2 (w 0)) m 2 = w 0 := by rw [u0 _ (by omega)]; exact h2
    have hR0 : RsM (wr I1 (m + 3) (up (I1 (m + 3)) 2 (w 0))) m 2 [] := ⟨by rw [wr_same, up_same]; rfl, Nat.zero_le _, fun k hk => nomatch hk⟩
    rw [q_175_42]
    generalize hI2 : wr I1 (m + 3) (up (I1 (m + 3)) 2 (w 0)) = I2 at *
    rcases hz with rfl | rfl
    · have := g59 [] rfl I2 hP2 hF2 h22 hR0
      simp (disch := omega) only [q_175_0, q_175_1, q_175_2, q_175_5, q_175_6, q_175_7, q_175_10, q_175_11, q_175_12, q_175_15, q_175_16, q_175_17, q_175_20, q_175_21, q_175_22, q_175_25, q_175_26, q_175_28, q_175_31, q_175_32, q_175_33, q_175_34, q_175_37, q_175_38, q_175_39, q_175_42, q_175_43, q_175_46, q_175_47, q_175_48, q_175_49, q_175_50, q_175_53, q_175_54, q_175_55, q_175_56, q_175_60, q_175_63, q_175_66, q_175_67, q_175_70, q_175_71, q_175_74, q_175_75, q_175_78, q_175_82, q_175_83, q_175_86, q_175_89, q_175_90, q_175_93, q_175_96, q_175_97, q_175_100, q_175_102, q_175_103, q_175_104, q_175_105, q_175_108, q_175_109, q_175_110, q_175_111, q_175_114, q_175_115, q_175_118, q_175_119, q_175_120, q_175_e, va_rf_s, bz_0, bz_1, bz_ok, bb_ok, Nat.add_assoc, w_lt, w_add, w_sub, w_mul, w_div, em_def, w_eq, w_inT, ↓ilt_t, ↓ilt_f, ↓ieq_t, ↓ieq_f, ntT, w_b, w_ix, kx_v, kx_n, kl_n, kl_i, kl_r, kl_o, inA_i, inA_s, inA_b, inA_z, inA_l, inA_0, inA_4, inA_5, inA_6, inA_7, inA_8, inA_9, inA_10, al_0, al_1, al_2, al_4, al_5, al_98, bsP_2, bsP_3, wr_same, wr_wr, wr_ne, up_same, up_ne, Nat.reduceAdd, Int.reduceAdd, Int.reduceSub, Int.reduceMul, Int.reduceLT, Int.reduceLE, Int.reduceEq, Int.reduceNeg, Int.reduceToNat, Nat.reduceLT, Nat.reduceLeDiff, Nat.reduceEqDiff, ↓reduceIte, true_and, and_true, not_true_eq_false, not_false_eq_true, eq_self, or_true, true_or, or_false, false_or, if_true, if_false, Int.toNat_natCast, w_ite, Nat.add_zero, reduceCtorEq, ne_eq, hm, hS3, hI2]
      exact this
    · simp (disch := omega) only [q_175_0, q_175_1, q_175_2, q_175_5, q_175_6, q_175_7, q_175_10, q_175_11, q_175_12, q_175_15, q_175_16, q_175_17, q_175_20, q_175_21, q_175_22, q_175_25, q_175_26, q_175_28, q_175_31, q_175_32, q_175_33, q_175_34, q_175_37, q_175_38, q_175_39, q_175_42, q_175_43, q_175_46, q_175_47, q_175_48, q_175_49, q_175_50, q_175_53, q_175_54, q_175_55, q_175_56, q_175_60, q_175_63, q_175_66, q_175_67, q_175_70, q_175_71, q_175_74, q_175_75, q_175_78, q_175_82, q_175_83, q_175_86, q_175_89, q_175_90, q_175_93, q_175_96, q_175_97, q_175_100, q_175_102, q_175_103, q_175_104, q_175_105, q_175_108, q_175_109, q_175_110, q_175_111, q_175_114, q_175_115, q_175_118, q_175_119, q_175_120, q_175_e, va_rf_s, bz_0, bz_1, bz_ok, bb_ok, Nat.add_assoc, w_lt, w_add, w_sub, w_mul, w_div, em_def, w_eq, w_inT, ↓ilt_t, ↓ilt_f, ↓ieq_t, ↓ieq_f, ntT, w_b, w_ix, kx_v, kx_n, kl_n, kl_i, kl_r, kl_o, inA_i, inA_s, inA_b, inA_z, inA_l, inA_0, inA_4, inA_5, inA_6, inA_7, inA_8, inA_9, inA_10, al_0, al_1, al_2, al_4, al_5, al_98, bsP_2, bsP_3, wr_same, wr_wr, wr_ne, up_same, up_ne, Nat.reduceAdd, Int.reduceAdd, Int.reduceSub, Int.reduceMul, Int.reduceLT, Int.reduceLE, Int.reduceEq, Int.reduceNeg, Int.reduceToNat, Nat.reduceLT, Nat.reduceLeDiff, Nat.reduceEqDiff, ↓reduceIte, true_and, and_true, not_true_eq_false, not_false_eq_true, eq_self, or_true, true_or, or_false, false_or, if_true, if_false, Int.toNat_natCast, w_ite, Nat.add_zero, reduceCtorEq, ne_eq, hm, hS3, hI2]
      refine sp_174 (s1 := l) (s2 := 2) hL (by omega) (by decide) (by omega) ((h.2.2.2.2.2.2.1 l hl).rd hF2 (by omega) (by omega)) (fun I3 hF3 hR3 => ?_)
      have := g59 _ rfl I3 (hP2.keep (hF3.1 _ (by omega) (by omega) (by omega)) (hF3.1 _ (by omega) (by omega) (by omega))) (hF2.trans hF3.rd) (by rw [hF3.1 _ (by omega) (by omega) (by omega)]; exact h22) (by rw [if_pos rfl]; exact hR3)
      simp (disch := omega) only [q_175_0, q_175_1, q_175_2, q_175_5, q_175_6, q_175_7, q_175_10, q_175_11, q_175_12, q_175_15, q_175_16, q_175_17, q_175_20, q_175_21, q_175_22, q_175_25, q_175_26, q_175_28, q_175_31, q_175_32, q_175_33, q_175_34, q_175_37, q_175_38, q_175_39, q_175_42, q_175_43, q_175_46, q_175_47, q_175_48, q_175_49, q_175_50, q_175_53, q_175_54, q_175_55, q_175_56, q_175_60, q_175_63, q_175_66, q_175_67, q_175_70, q_175_71, q_175_74, q_175_75, q_175_78, q_175_82, q_175_83, q_175_86, q_175_89, q_175_90, q_175_93, q_175_96, q_175_97, q_175_100, q_175_102, q_175_103, q_175_104, q_175_105, q_175_108, q_175_109, q_175_110, q_175_111, q_175_114, q_175_115, q_175_118, q_175_119, q_175_120, q_175_e, va_rf_s, bz_0, bz_1, bz_ok, bb_ok, Nat.add_assoc, w_lt, w_add, w_sub, w_mul, w_div, em_def, w_eq, w_inT, ↓ilt_t, ↓ilt_f, ↓ieq_t, ↓ieq_f, ntT, w_b, w_ix, kx_v, kx_n, kl_n, kl_i, kl_r, kl_o, inA_i, inA_s, inA_b, inA_z, inA_l, inA_0, inA_4, inA_5, inA_6, inA_7, inA_8, inA_9, inA_10, al_0, al_1, al_2, al_4, al_5, al_98, bsP_2, bsP_3, wr_same, wr_wr, wr_ne, up_same, up_ne, Nat.reduceAdd, Int.reduceAdd, Int.reduceSub, Int.reduceMul, Int.reduceLT, Int.reduceLE, Int.reduceEq, Int.reduceNeg, Int.reduceToNat, Nat.reduceLT, Nat.reduceLeDiff, Nat.reduceEqDiff, ↓reduceIte, true_and, and_true, not_true_eq_false, not_false_eq_true, eq_self, or_true, true_or, or_false, false_or, if_true, if_false, Int.toNat_natCast, w_ite, Nat.add_zero, reduceCtorEq, ne_eq]
      exact this
  -- the start
  have u0 : ∀ x, x ≠ m → wr I m (up (up (up (up (up (I m) 2 (w 0)) 3 (w n)) 4 (w 0)) 6 (w 0)) 7 (w (-1))) x = I x := fun x hx => wr_ne hx
  have u1 : wr I m (up (up (up (up (up (I m) 2 (w 0)) 3 (w n)) 4 (w 0)) 6 (w 0)) 7 (w (-1))) m = up (up (up (up (up (I m) 2 (w 0)) 3 (w n)) 4 (w 0)) 6 (w 0)) 7 (w (-1)) := wr_same
  simp (disch := omega) only [q_175_0, q_175_1, q_175_2, q_175_5, q_175_6, q_175_7, q_175_10, q_175_11, q_175_12, q_175_15, q_175_16, q_175_17, q_175_20, q_175_21, q_175_22, q_175_25, q_175_26, q_175_28, q_175_31, q_175_32, q_175_33, q_175_34, q_175_37, q_175_38, q_175_39, q_175_43, q_175_46, q_175_47, q_175_48, q_175_49, q_175_50, q_175_53, q_175_54, q_175_55, q_175_56, q_175_60, q_175_63, q_175_66, q_175_67, q_175_70, q_175_71, q_175_74, q_175_75, q_175_78, q_175_82, q_175_83, q_175_86, q_175_89, q_175_90, q_175_93, q_175_96, q_175_97, q_175_100, q_175_102, q_175_103, q_175_104, q_175_105, q_175_108, q_175_109, q_175_110, q_175_111, q_175_114, q_175_115, q_175_118, q_175_119, q_175_120, q_175_e, va_rf_s, bz_0, bz_1, bz_ok, bb_ok, Nat.add_assoc, w_lt, w_add, w_sub, w_mul, w_div, em_def, w_eq, w_inT, ↓ilt_t, ↓ilt_f, ↓ieq_t, ↓ieq_f, ntT, w_b, w_ix, kx_v, kx_n, kl_n, kl_i, kl_r, kl_o, inA_i, inA_s, inA_b, inA_z, inA_l, inA_0, inA_4, inA_5, inA_6, inA_7, inA_8, inA_9, inA_10, al_0, al_1, al_2, al_4, al_5, al_98, bsP_2, bsP_3, wr_same, wr_wr, wr_ne, up_same, up_ne, Nat.reduceAdd, Int.reduceAdd, Int.reduceSub, Int.reduceMul, Int.reduceLT, Int.reduceLE, Int.reduceEq, Int.reduceNeg, Int.reduceToNat, Nat.reduceLT, Nat.reduceLeDiff, Nat.reduceEqDiff, ↓reduceIte, true_and, and_true, not_true_eq_false, not_false_eq_true, eq_self, or_true, true_or, or_false, false_or, if_true, if_false, Int.toNat_natCast, w_ite, Nat.add_zero, reduceCtorEq, ne_eq, hm]
  generalize wr I m (up (up (up (up (up (I m) 2 (w 0)) 3 (w n)) 4 (w 0)) 6 (w 0)) 7 (w (-1))) = I1 at u0 u1 ⊢
  have hF1 : RdF I I1 m := ⟨fun x a _ _ _ => u0 x a, fun j hj => by rw [u0 _ (by omega)], fun j j1 j2 j3 j4 j5 => by rw [u1, up_ne j5, up_ne j4, up_ne j3, up_ne j2, up_ne j1]⟩
  have h21 : I1 m 2 = w 0 := by rw [u1, up_ne (by decide), up_ne (by decide), up_ne (by decide), up_ne (by decide), up_same]
  have hP1 : PM I1 m t 0 (0, -1) := ⟨by rw [u1, up_ne (by decide), up_ne (by decide), up_ne (by decide), up_same, en], by rw [u0 _ (by omega)]; exact hT, hl4, htb, by rw [u1, up_ne (by decide), up_ne (by decide), up_same]; rfl, Nat.zero_le _, by rw [u1, up_ne (by decide), up_same], by rw [u1, up_same], (by decide), (by decide)⟩
  have hst1 : StrM S I1 G m := hst.keep (fun a ha => u0 a (by omega))
  refine sp_167 hL hP1 hst1.1.1 hst1.1.2 kw_b.1 (fun q hkw I2 hF2 hP2 => ?_) (fun hkw I2 hF2 hP2 => ?_)
  · have hq := (kw_ok hkw (Nat.zero_le _)).1
    have h22 : I2 m 2 = w 0 := by rw [hF2.2 2 (by decide) (by decide) (by decide)]; exact h21
    simp (disch := omega) only [q_175_0, q_175_1, q_175_2, q_175_5, q_175_6, q_175_7, q_175_10, q_175_11, q_175_12, q_175_15, q_175_16, q_175_17, q_175_20, q_175_21, q_175_22, q_175_25, q_175_26, q_175_28, q_175_31, q_175_32, q_175_33, q_175_34, q_175_37, q_175_38, q_175_39, q_175_43, q_175_46, q_175_47, q_175_48, q_175_49, q_175_50, q_175_53, q_175_54, q_175_55, q_175_56, q_175_60, q_175_63, q_175_66, q_175_67, q_175_70, q_175_71, q_175_74, q_175_75, q_175_78, q_175_82, q_175_83, q_175_86, q_175_89, q_175_90, q_175_93, q_175_96, q_175_97, q_175_100, q_175_102, q_175_103, q_175_104, q_175_105, q_175_108, q_175_109, q_175_110, q_175_111, q_175_114, q_175_115, q_175_118, q_175_119, q_175_120, q_175_e, va_rf_s, bz_0, bz_1, bz_ok, bb_ok, Nat.add_assoc, w_lt, w_add, w_sub, w_mul, w_div, em_def, w_eq, w_inT, ↓ilt_t, ↓ilt_f, ↓ieq_t, ↓ieq_f, ntT, w_b, w_ix, kx_v, kx_n, kl_n, kl_i, kl_r, kl_o, inA_i, inA_s, inA_b, inA_z, inA_l, inA_0, inA_4, inA_5, inA_6, inA_7, inA_8, inA_9, inA_10, al_0, al_1, al_2, al_4, al_5, al_98, bsP_2, bsP_3, wr_same, wr_wr, wr_ne, up_same, up_ne, Nat.reduceAdd, Int.reduceAdd, Int.reduceSub, Int.reduceMul, Int.reduceLT, Int.reduceLE, Int.reduceEq, Int.reduceNeg, Int.reduceToNat, Nat.reduceLT, Nat.reduceLeDiff, Nat.reduceEqDiff, ↓reduceIte, true_and, and_true, not_true_eq_false, not_false_eq_true, eq_self, or_true, true_or, or_false, false_or, if_true, if_false, Int.toNat_natCast, w_ite, Nat.add_zero, reduceCtorEq, ne_eq, hm]
    refine sp_164 (lo := 0) (hi := 1) hL hP2 (by decide) (by decide) (by decide) (by decide) (fun l q1 hnm I3 hF3 hP3 => ?_) (fun ke qe hnm I3 p3 hF3 hP3 => ?_)
    · have hok := pNum_ok hnm hq
      have h23 : I3 m 2 = w 0 := by rw [hF3.2 2 (by decide) (by decide) (by decide)]; exact h22
      simp (disch := omega) only [q_175_0, q_175_1, q_175_2, q_175_5, q_175_6, q_175_7, q_175_10, q_175_11, q_175_12, q_175_15, q_175_16, q_175_17, q_175_20, q_175_21, q_175_22, q_175_25, q_175_26, q_175_28, q_175_31, q_175_32, q_175_33, q_175_34, q_175_37, q_175_38, q_175_39, q_175_43, q_175_46, q_175_47, q_175_48, q_175_49, q_175_50, q_175_53, q_175_54, q_175_55, q_175_56, q_175_60, q_175_63, q_175_66, q_175_67, q_175_70, q_175_71, q_175_74, q_175_75, q_175_78, q_175_82, q_175_83, q_175_86, q_175_89, q_175_90, q_175_93, q_175_96, q_175_97, q_175_100, q_175_102, q_175_103, q_175_104, q_175_105, q_175_108, q_175_109, q_175_110, q_175_111, q_175_114, q_175_115, q_175_118, q_175_119, q_175_120, q_175_e, va_rf_s, bz_0, bz_1, bz_ok, bb_ok, Nat.add_assoc, w_lt, w_add, w_sub, w_mul, w_div, em_def, w_eq, w_inT, ↓ilt_t, ↓ilt_f, ↓ieq_t, ↓ieq_f, ntT, w_b, w_ix, kx_v, kx_n, kl_n, kl_i, kl_r, kl_o, inA_i, inA_s, inA_b, inA_z, inA_l, inA_0, inA_4, inA_5, inA_6, inA_7, inA_8, inA_9, inA_10, al_0, al_1, al_2, al_4, al_5, al_98, bsP_2, bsP_3, wr_same, wr_wr, wr_ne, up_same, up_ne, Nat.reduceAdd, Int.reduceAdd, Int.reduceSub, Int.reduceMul, Int.reduceLT, Int.reduceLE, Int.reduceEq, Int.reduceNeg, Int.reduceToNat, Nat.reduceLT, Nat.reduceLeDiff, Nat.reduceEqDiff, ↓reduceIte, true_and, and_true, not_true_eq_false, not_false_eq_true, eq_self, or_true, true_or, or_false, false_or, if_true, if_false, Int.toNat_natCast, w_ite, Nat.add_zero, reduceCtorEq, ne_eq, hm]
      refine sp_168 hL hP3 (fun h59 I4 hF4 hP4 => ?_) (fun h59 I4 hF4 hP4 => ?_)
      · have hhd : pHead t = .inl (((l.toNat : Nat) : Int), skb t q1 + 1) := by
          unfold pHead; rw [hkw]; dsimp only; rw [hnm]; dsimp only; rw [if_pos h59, show ((l.toNat : Nat) : Int) = l by omega]
        have := g42 I4 _ l.toNat (by omega) hhd hP4 (((hF1.trans hF2.rd).trans hF3.rd).trans hF4.rd) (by rw [hF4.2 2 (by decide) (by decide) (by decide)]; exact h23)
        rw [show ((l.toNat : Nat) : Int) = l by omega] at this
        simp (disch := omega) only [q_175_0, q_175_1, q_175_2, q_175_5, q_175_6, q_175_7, q_175_10, q_175_11, q_175_12, q_175_15, q_175_16, q_175_17, q_175_20, q_175_21, q_175_22, q_175_25, q_175_26, q_175_28, q_175_31, q_175_32, q_175_33, q_175_34, q_175_37, q_175_38, q_175_39, q_175_43, q_175_46, q_175_47, q_175_48, q_175_49, q_175_50, q_175_53, q_175_54, q_175_55, q_175_56, q_175_60, q_175_63, q_175_66, q_175_67, q_175_70, q_175_71, q_175_74, q_175_75, q_175_78, q_175_82, q_175_83, q_175_86, q_175_89, q_175_90, q_175_93, q_175_96, q_175_97, q_175_100, q_175_102, q_175_103, q_175_104, q_175_105, q_175_108, q_175_109, q_175_110, q_175_111, q_175_114, q_175_115, q_175_118, q_175_119, q_175_120, q_175_e, va_rf_s, bz_0, bz_1, bz_ok, bb_ok, Nat.add_assoc, w_lt, w_add, w_sub, w_mul, w_div, em_def, w_eq, w_inT, ↓ilt_t, ↓ilt_f, ↓ieq_t, ↓ieq_f, ntT, w_b, w_ix, kx_v, kx_n, kl_n, kl_i, kl_r, kl_o, inA_i, inA_s, inA_b, inA_z, inA_l, inA_0, inA_4, inA_5, inA_6, inA_7, inA_8, inA_9, inA_10, al_0, al_1, al_2, al_4, al_5, al_98, bsP_2, bsP_3, wr_same, wr_wr, wr_ne, up_same, up_ne, Nat.reduceAdd, Int.reduceAdd, Int.reduceSub, Int.reduceMul, Int.reduceLT, Int.reduceLE, Int.reduceEq, Int.reduceNeg, Int.reduceToNat, Nat.reduceLT, Nat.reduceLeDiff, Nat.reduceEqDiff, ↓reduceIte, true_and, and_true, not_true_eq_false, not_false_eq_true, eq_self, or_true, true_or, or_false, false_or, if_true, if_false, Int.toNat_natCast, w_ite, Nat.add_zero, reduceCtorEq, ne_eq]
        exact this
      · have hpt : pText t (troom s z) = .inr (1, skb t q1) := by
          unfold pText pHead; rw [hkw]; dsimp only; rw [hnm]; dsimp only; rw [if_neg h59]
        have := f42 I4 _ _ l.toNat (by omega) hpt hP4 (((hF1.trans hF2.rd).trans hF3.rd).trans hF4.rd) (by rw [hF4.2 2 (by decide) (by decide) (by decide)]; exact h23)
        rw [show ((l.toNat : Nat) : Int) = l by omega] at this
        simp (disch := omega) only [q_175_0, q_175_1, q_175_2, q_175_5, q_175_6, q_175_7, q_175_10, q_175_11, q_175_12, q_175_15, q_175_16, q_175_17, q_175_20, q_175_21, q_175_22, q_175_25, q_175_26, q_175_28, q_175_31, q_175_32, q_175_33, q_175_34, q_175_37, q_175_38, q_175_39, q_175_43, q_175_46, q_175_47, q_175_48, q_175_49, q_175_50, q_175_53, q_175_54, q_175_55, q_175_56, q_175_60, q_175_63, q_175_66, q_175_67, q_175_70, q_175_71, q_175_74, q_175_75, q_175_78, q_175_82, q_175_83, q_175_86, q_175_89, q_175_90, q_175_93, q_175_96, q_175_97, q_175_100, q_175_102, q_175_103, q_175_104, q_175_105, q_175_108, q_175_109, q_175_110, q_175_111, q_175_114, q_175_115, q_175_118, q_175_119, q_175_120, q_175_e, va_rf_s, bz_0, bz_1, bz_ok, bb_ok, Nat.add_assoc, w_lt, w_add, w_sub, w_mul, w_div, em_def, w_eq, w_inT, ↓ilt_t, ↓ilt_f, ↓ieq_t, ↓ieq_f, ntT, w_b, w_ix, kx_v, kx_n, kl_n, kl_i, kl_r, kl_o, inA_i, inA_s, inA_b, inA_z, inA_l, inA_0, inA_4, inA_5, inA_6, inA_7, inA_8, inA_9, inA_10, al_0, al_1, al_2, al_4, al_5, al_98, bsP_2, bsP_3, wr_same, wr_wr, wr_ne, up_same, up_ne, Nat.reduceAdd, Int.reduceAdd, Int.reduceSub, Int.reduceMul, Int.reduceLT, Int.reduceLE, Int.reduceEq, Int.reduceNeg, Int.reduceToNat, Nat.reduceLT, Nat.reduceLeDiff, Nat.reduceEqDiff, ↓reduceIte, true_and, and_true, not_true_eq_false, not_false_eq_true, eq_self, or_true, true_or, or_false, false_or, if_true, if_false, Int.toNat_natCast, w_ite, Nat.add_zero, reduceCtorEq, ne_eq]
        exact this
    · have hpt : pText t (troom s z) = .inr (ke, qe) := by
        unfold pText pHead; rw [hkw]; dsimp only; rw [hnm]
      have hne : (ke, (qe : Int)).1 ≠ 0 := by have := (pNum_bad hnm hq).1; dsimp only at this ⊢; omega
      have s168 := fun {d : Nat} {Q : XO → Hp → Prop} => sp_168f (d := d) (Q := Q) (L := L) (G := G) hL hP3 hne
      have := f42 I3 p3 (ke, qe) 0 (by decide) hpt hP3 ((hF1.trans hF2.rd).trans hF3.rd) (by rw [hF3.2 2 (by decide) (by decide) (by decide)]; exact h22)
      simp (disch := omega) only [q_175_0, q_175_1, q_175_2, q_175_5, q_175_6, q_175_7, q_175_10, q_175_11, q_175_12, q_175_15, q_175_16, q_175_17, q_175_20, q_175_21, q_175_22, q_175_25, q_175_26, q_175_28, q_175_31, q_175_32, q_175_33, q_175_34, q_175_37, q_175_38, q_175_39, q_175_43, q_175_46, q_175_47, q_175_48, q_175_49, q_175_50, q_175_53, q_175_54, q_175_55, q_175_56, q_175_60, q_175_63, q_175_66, q_175_67, q_175_70, q_175_71, q_175_74, q_175_75, q_175_78, q_175_82, q_175_83, q_175_86, q_175_89, q_175_90, q_175_93, q_175_96, q_175_97, q_175_100, q_175_102, q_175_103, q_175_104, q_175_105, q_175_108, q_175_109, q_175_110, q_175_111, q_175_114, q_175_115, q_175_118, q_175_119, q_175_120, q_175_e, va_rf_s, bz_0, bz_1, bz_ok, bb_ok, Nat.add_assoc, w_lt, w_add, w_sub, w_mul, w_div, em_def, w_eq, w_inT, ↓ilt_t, ↓ilt_f, ↓ieq_t, ↓ieq_f, ntT, w_b, w_ix, kx_v, kx_n, kl_n, kl_i, kl_r, kl_o, inA_i, inA_s, inA_b, inA_z, inA_l, inA_0, inA_4, inA_5, inA_6, inA_7, inA_8, inA_9, inA_10, al_0, al_1, al_2, al_4, al_5, al_98, bsP_2, bsP_3, wr_same, wr_wr, wr_ne, up_same, up_ne, Nat.reduceAdd, Int.reduceAdd, Int.reduceSub, Int.reduceMul, Int.reduceLT, Int.reduceLE, Int.reduceEq, Int.reduceNeg, Int.reduceToNat, Nat.reduceLT, Nat.reduceLeDiff, Nat.reduceEqDiff, ↓reduceIte, true_and, and_true, not_true_eq_false, not_false_eq_true, eq_self, or_true, true_or, or_false, false_or, if_true, if_false, Int.toNat_natCast, w_ite, Nat.add_zero, reduceCtorEq, ne_eq, hm, s168]
      exact this
  · have hpt : pText t (troom s z) = .inr (1, skb t 0) := by
      unfold pText pHead; rw [hkw]
    have s164 := fun {d : Nat} {Q : XO → Hp → Prop} {lo hi : Int32} => sp_164f (d := d) (Q := Q) (L := L) (G := G) (lo := lo) (hi := hi) hL hP2 one_ne
    have s168 := fun {d : Nat} {Q : XO → Hp → Prop} => sp_168f (d := d) (Q := Q) (L := L) (G := G) hL hP2 one_ne
    have := f42 I2 _ (1, skb t 0) 0 (by decide) hpt hP2 (hF1.trans hF2.rd) (by rw [hF2.2 2 (by decide) (by decide) (by decide)]; exact h21)
    simp (disch := omega) only [q_175_0, q_175_1, q_175_2, q_175_5, q_175_6, q_175_7, q_175_10, q_175_11, q_175_12, q_175_15, q_175_16, q_175_17, q_175_20, q_175_21, q_175_22, q_175_25, q_175_26, q_175_28, q_175_31, q_175_32, q_175_33, q_175_34, q_175_37, q_175_38, q_175_39, q_175_43, q_175_46, q_175_47, q_175_48, q_175_49, q_175_50, q_175_53, q_175_54, q_175_55, q_175_56, q_175_60, q_175_63, q_175_66, q_175_67, q_175_70, q_175_71, q_175_74, q_175_75, q_175_78, q_175_82, q_175_83, q_175_86, q_175_89, q_175_90, q_175_93, q_175_96, q_175_97, q_175_100, q_175_102, q_175_103, q_175_104, q_175_105, q_175_108, q_175_109, q_175_110, q_175_111, q_175_114, q_175_115, q_175_118, q_175_119, q_175_120, q_175_e, va_rf_s, bz_0, bz_1, bz_ok, bb_ok, Nat.add_assoc, w_lt, w_add, w_sub, w_mul, w_div, em_def, w_eq, w_inT, ↓ilt_t, ↓ilt_f, ↓ieq_t, ↓ieq_f, ntT, w_b, w_ix, kx_v, kx_n, kl_n, kl_i, kl_r, kl_o, inA_i, inA_s, inA_b, inA_z, inA_l, inA_0, inA_4, inA_5, inA_6, inA_7, inA_8, inA_9, inA_10, al_0, al_1, al_2, al_4, al_5, al_98, bsP_2, bsP_3, wr_same, wr_wr, wr_ne, up_same, up_ne, Nat.reduceAdd, Int.reduceAdd, Int.reduceSub, Int.reduceMul, Int.reduceLT, Int.reduceLE, Int.reduceEq, Int.reduceNeg, Int.reduceToNat, Nat.reduceLT, Nat.reduceLeDiff, Nat.reduceEqDiff, ↓reduceIte, true_and, and_true, not_true_eq_false, not_false_eq_true, eq_self, or_true, true_or, or_false, false_or, if_true, if_false, Int.toNat_natCast, w_ite, Nat.add_zero, reduceCtorEq, ne_eq, hm, s164, s168]
    exact this
end

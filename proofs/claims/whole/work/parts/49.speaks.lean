section
variable {d : Nat} {Q : XO → Hp → Prop} {S : SH} {I : MI} {L : ML} {R : MR} {G : MG} {A : Hp}
/-- a refusal ahead of all -/
theorem sp_89r {v : Nat} {rs : List Rl} {e dep : Nat} {n rf : Int} (hV : VoiS S v) (hd : dep ≤ 30) (hM : MInv rs I v) (hU : UInv rs I v) (n1 : -2147483648 ≤ n) (n2 : n < 2147483648) (h0 : 0 < rf) (h7 : rf < 7)
    (h90 : ∀ {d : Nat} {Q : XO → Hp → Prop}, XC d 90 [.ref v, .int (w n), .int (w dep)] (mk S I L R G) Q ↔ Q (.inl (some (.int (w rf)))) (mk S I L R G))
    (hQ : ∀ I' : MI, vpost rs I I' v dep → gi I' (v + 7) 4 = dep + 1 → crow I' (v + 7) dep = (n, rf, -1, -1) → Q (.inl (some (.int (w 0)))) (mk S I' L R G)) :
    XC (e + 6) 89 [.ref v, .int (w n), .int (w dep)] (mk S I L R G) Q := by
  obtain ⟨g0, g1, g2, g3, g4, g5, g6, g7⟩ := id hV
  simp (disch := omega) only [q_89_0, q_89_1, q_89_2, q_89_3, q_89_6, q_89_7, q_89_8, q_89_9, q_89_12, q_89_13, q_89_16, q_89_17, q_89_19, q_89_22, q_89_23, q_89_26, q_89_27, q_89_28, q_89_29, q_89_30, q_89_31, q_89_34, q_89_35, q_89_36, q_89_39, q_89_40, q_89_41, q_89_44, q_89_45, q_89_46, q_89_49, q_89_50, q_89_51, q_89_52, q_89_55, q_89_58, q_89_59, q_89_60, q_89_61, q_89_64, q_89_67, q_89_68, q_89_71, q_89_72, q_89_75, q_89_78, q_89_79, q_89_80, q_89_81, q_89_82, q_89_85, q_89_87, q_89_89, q_89_90, q_89_93, q_89_94, q_89_97, q_89_98, q_89_99, q_89_100, q_89_101, q_89_102, q_89_105, q_89_106, q_89_107, q_89_108, q_89_111, q_89_112, q_89_114, q_89_115, q_89_116, q_89_119, q_89_120, q_89_123, q_89_124, q_89_125, q_89_126, q_89_127, q_89_130, q_89_131, q_89_132, q_89_133, q_89_134, q_89_137, q_89_138, q_89_139, q_89_140, q_89_141, q_89_144, q_89_146, q_89_147, q_89_148, q_89_150, q_89_151, q_89_154, q_89_157, q_89_158, q_89_159, q_89_160, q_89_163, q_89_164, q_89_165, q_89_168, q_89_169, q_89_171, q_89_172, q_89_173, q_89_176, q_89_177, q_89_178, q_89_179, q_89_182, q_89_184, q_89_185, q_89_186, q_89_189, q_89_190, q_89_191, q_89_194, q_89_195, q_89_e, va_rf_s, bz_0, bz_1, bz_ok, bb_ok, Nat.add_assoc, w_lt, w_add, w_sub, w_mul, w_div, em_def, w_eq, w_inT, ↓ilt_t, ↓ilt_f, ↓ieq_t, ↓ieq_f, ntT, w_b, w_ix, kx_v, kx_n, kl_n, kl_i, kl_r, kl_o, inA_i, inA_s, inA_b, inA_z, inA_l, inA_0, inA_4, inA_5, inA_6, inA_7, inA_8, inA_9, inA_10, al_0, al_1, al_2, al_4, al_5, al_98, bsP_2, bsP_3, wr_same, wr_wr, wr_ne, up_same, up_ne, Nat.reduceAdd, Int.reduceAdd, Int.reduceSub, Int.reduceMul, Int.reduceLT, Int.reduceLE, Int.reduceEq, Int.reduceNeg, Int.reduceToNat, Nat.reduceLT, Nat.reduceLeDiff, Nat.reduceEqDiff, ↓reduceIte, true_and, and_true, not_true_eq_false, not_false_eq_true, eq_self, or_true, true_or, or_false, false_or, if_true, if_false, Int.toNat_natCast, w_ite, Nat.add_zero, reduceCtorEq, ne_eq, g0, g2.1, h90]
  refine sp_9 g2 (by omega) n1 n2 (by omega) h7 (by omega) (by omega) (by omega) (by omega) (fun I3 f1 f2 f3 f4 => ?_)
  simp (disch := omega) only [q_89_0, q_89_1, q_89_2, q_89_3, q_89_6, q_89_7, q_89_8, q_89_9, q_89_12, q_89_13, q_89_16, q_89_17, q_89_19, q_89_22, q_89_23, q_89_26, q_89_27, q_89_28, q_89_29, q_89_30, q_89_31, q_89_34, q_89_35, q_89_36, q_89_39, q_89_40, q_89_41, q_89_44, q_89_45, q_89_46, q_89_49, q_89_50, q_89_51, q_89_52, q_89_55, q_89_58, q_89_59, q_89_60, q_89_61, q_89_64, q_89_67, q_89_68, q_89_71, q_89_72, q_89_75, q_89_78, q_89_79, q_89_80, q_89_81, q_89_82, q_89_85, q_89_87, q_89_89, q_89_90, q_89_93, q_89_94, q_89_97, q_89_98, q_89_99, q_89_100, q_89_101, q_89_102, q_89_105, q_89_106, q_89_107, q_89_108, q_89_111, q_89_112, q_89_114, q_89_115, q_89_116, q_89_119, q_89_120, q_89_123, q_89_124, q_89_125, q_89_126, q_89_127, q_89_130, q_89_131, q_89_132, q_89_133, q_89_134, q_89_137, q_89_138, q_89_139, q_89_140, q_89_141, q_89_144, q_89_146, q_89_147, q_89_148, q_89_150, q_89_151, q_89_154, q_89_157, q_89_158, q_89_159, q_89_160, q_89_163, q_89_164, q_89_165, q_89_168, q_89_169, q_89_171, q_89_172, q_89_173, q_89_176, q_89_177, q_89_178, q_89_179, q_89_182, q_89_184, q_89_185, q_89_186, q_89_189, q_89_190, q_89_191, q_89_194, q_89_195, q_89_e, va_rf_s, bz_0, bz_1, bz_ok, bb_ok, Nat.add_assoc, w_lt, w_add, w_sub, w_mul, w_div, em_def, w_eq, w_inT, ↓ilt_t, ↓ilt_f, ↓ieq_t, ↓ieq_f, ntT, w_b, w_ix, kx_v, kx_n, kl_n, kl_i, kl_r, kl_o, inA_i, inA_s, inA_b, inA_z, inA_l, inA_0, inA_4, inA_5, inA_6, inA_7, inA_8, inA_9, inA_10, al_0, al_1, al_2, al_4, al_5, al_98, bsP_2, bsP_3, wr_same, wr_wr, wr_ne, up_same, up_ne, Nat.reduceAdd, Int.reduceAdd, Int.reduceSub, Int.reduceMul, Int.reduceLT, Int.reduceLE, Int.reduceEq, Int.reduceNeg, Int.reduceToNat, Nat.reduceLT, Nat.reduceLeDiff, Nat.reduceEqDiff, ↓reduceIte, true_and, and_true, not_true_eq_false, not_false_eq_true, eq_self, or_true, true_or, or_false, false_or, if_true, if_false, Int.toNat_natCast, w_ite, Nat.add_zero, reduceCtorEq, ne_eq]
  exact hQ I3 ((vpost.refl hM hU).tail (fun a ha => f1 a (by omega))) (by rw [f4, if_neg (by omega)]) f3
theorem vpost.nine {rs : List Rl} {I I1 : MI} {v dep : Nat} (hM : MInv rs I v) (hU : UInv rs I v) (h1 : ∀ a, a ≠ v → I1 a = I a) (h2 : ∀ j, j ≠ 9 → I1 v j = I v j) : vpost rs I I1 v dep := by
  refine ⟨fun a ha => h1 a (by omega), h2 3 (by decide), h2 10 (by decide), hM.congr (h1 _ (by omega)) (h1 _ (by omega)) (h1 _ (by omega)) (h1 _ (by omega)) (h1 _ (by omega)), hU.congr (fun k h => by unfold ubit at h ⊢; rw [h2 4 (by decide)]; exact h) (h1 _ (by omega)) (h1 _ (by omega)), fun i _ => ?_, fun j _ => ?_, fun s _ h => ?_, fun k h => ?_⟩
  · rw [h1 _ (by omega), h1 _ (by omega), h1 _ (by omega)]; exact ⟨rfl, rfl, rfl⟩
  · rw [h1 _ (by omega)]
  · rw [gi_congr (h1 _ (by omega))]; exact h
  · unfold ubit at h ⊢; rw [h2 4 (by decide)]; exact h
theorem vpost.kept {rs : List Rl} {I I1 : MI} {v dep H : Nat} {n k : Int} {t : List Int} (h : vpost rs I I1 v dep) (n1 : 0 ≤ n) (n2 : n ≤ 999999999) (hev : ev rs 30 n = some (t, k, H)) (hk : k ≤ 1000) (hu : ∀ k2, k2 < rs.length → ubit I1 v k2 = false → ev (rs.eraseIdx k2) 30 n = ev rs 30 n) : vpost rs I (keptI I1 (v + 1) n t k H) v dep := by
  have hl := ev_len hev
  have hp := ev_pos _ _ _ hev
  dsimp only at hl hp
  have hs := sl_bd n
  obtain ⟨a1, a2, a3, a4, a5, a6, a7, a8, a9⟩ := h
  have e : ∀ a, (a < v + 2 ∨ v + 6 < a) → keptI I1 (v + 1) n t k H a = I1 a := fun a ha => by
    unfold keptI; simp (disch := omega) only [wr_ne]
  have e2 : keptI I1 (v + 1) n t k H (v + 2) = pw (I1 (v + 2)) (sl n * 100) t := by
    unfold keptI; simp (disch := omega) only [wr_ne, wr_same, Nat.add_assoc, Nat.reduceAdd]
  have e3 : ∀ s, gi (keptI I1 (v + 1) n t k H) (v + 3) s = if s = sl n then n else gi I1 (v + 3) s := fun s => by
    unfold keptI; simp (disch := omega) only [gi_ne, gi_wr, wr_ne, Nat.add_assoc, Nat.reduceAdd]
    by_cases c : s = sl n
    · subst c; rw [up_same, w_toInt (by omega) (by omega), if_pos rfl]
    · rw [up_ne c, if_neg c]; rfl
  have e4 : keptI I1 (v + 1) n t k H (v + 4) = up (I1 (v + 4)) (sl n) (w t.length) := by
    unfold keptI; simp (disch := omega) only [wr_ne, wr_same, Nat.add_assoc, Nat.reduceAdd]
  have e5 : keptI I1 (v + 1) n t k H (v + 5) = up (I1 (v + 5)) (sl n) (w k) := by
    unfold keptI; simp (disch := omega) only [wr_ne, wr_same, Nat.add_assoc, Nat.reduceAdd]
  have e6 : keptI I1 (v + 1) n t k H (v + 6) = up (I1 (v + 6)) (sl n) (w H) := by
    unfold keptI; simp (disch := omega) only [wr_ne, wr_same, Nat.add_assoc, Nat.reduceAdd]
  have e0 := e v (by omega)
  have eb : ∀ j, ubit (keptI I1 (v + 1) n t k H) v j = ubit I1 v j := fun j => by unfold ubit; rw [e0]
  have g4 : ∀ s, gi (keptI I1 (v + 1) n t k H) (v + 4) s = if s = sl n then (t.length : Int) else gi I1 (v + 4) s := fun s => by
    unfold gi; rw [e4]
    by_cases c : s = sl n
    · subst c; rw [up_same, w_toInt (by omega) (by omega), if_pos rfl]
    · rw [up_ne c, if_neg c]
  refine ⟨fun a ha => (e a (by omega)).trans (a1 a ha), by rw [e0]; exact a2, by rw [e0]; exact a3, fun s hs' => ?_, fun k2 hk2 hu2 s hs' h0 => ?_, fun i hi => ?_, fun j hj => ?_, fun s hs' h0 => ?_, fun j hj => ?_⟩
  · unfold mOk
    rw [e3, g4, e2, e4, e5, e6]
    by_cases c : s = sl n
    · subst c
      rw [if_pos rfl, if_pos rfl]
      exact Or.inr ⟨n1, n2, rfl, Or.inr ⟨_, hev, hk, up_same, up_same, up_same, pw_txt _ _ _⟩⟩
    · rw [if_neg c, if_neg c, up_ne c, up_ne c, up_ne c]
      have := a4 s hs'
      unfold mOk at this
      rcases this with h | ⟨h1, h2, h3, h | ⟨x, x1, x2, x3, x4, x5, x6⟩⟩
      · exact Or.inl h
      · exact Or.inr ⟨h1, h2, h3, Or.inl h⟩
      · have xl := ev_len x1
        exact Or.inr ⟨h1, h2, h3, Or.inr ⟨x, x1, x2, x3, x4, x5, Txt_congr x6 (fun j j1 j2 => pw_out (by omega))⟩⟩
  · rw [eb] at hu2
    rw [e3] at h0 ⊢
    rw [g4]
    by_cases c : s = sl n
    · subst c
      rw [if_pos rfl, if_pos rfl]
      exact ⟨fun h => by omega, fun _ => hu k2 hk2 hu2⟩
    · rw [if_neg c] at h0 ⊢
      rw [if_neg c]
      exact a5 k2 hk2 hu2 s hs' h0
  · rw [e _ (by omega), e _ (by omega), e _ (by omega)]; exact a6 i hi
  · rw [e _ (by omega)]; exact a7 j hj
  · rw [e3]
    by_cases c : s = sl n
    · rw [if_pos c]
      have := sl_c n
      unfold slot at this
      split at this
      · have := Int.emod_nonneg n (show (151 : Int) ≠ 0 by decide); omega
      · split at this <;> omega
    · rw [if_neg c]; exact a8 s hs' h0
  · rw [eb]; exact a9 j hj
theorem sp_89 {v : Nat} {rs : List Rl} (hV : VoiS S v) : ∀ f, SpkP S L R G v rs f := by
  intro f
  induction f with
  | zero =>
    intro e I dep n Q he hfd hR hM hU hwc a1 a2 a0 n1 n2 hch hchU hQ
    have s90 := fun {d : Nat} {Q : XO → Hp → Prop} => sp_90 (d := d) (Q := Q) (I := I) (L := L) (R := R) (G := G) hV (show dep ≤ 30 by omega) n1 n2
    by_cases c1 : n < 0 ∨ 999999999 < n
    · simp only [if_pos c1] at s90
      refine sp_89r hV (by omega) hM hU n1 n2 (by decide) (by decide) s90 (fun I' hp h4 hr => ?_)
      rw [say_2 c1] at hQ
      exact hQ _ I' hp ⟨rfl, fun _ => ⟨h4, fun i hi => by have : i = 0 := (by simpa using hi); subst this; exact hr⟩⟩ (fun k _ _ => by dsimp only; rw [say_2 c1])
    · simp only [if_neg c1] at s90
      by_cases c2 : n ∈ opl I v dep
      · simp only [if_pos c2] at s90
        refine sp_89r hV (by omega) hM hU n1 n2 (by decide) (by decide) s90 (fun I' hp h4 hr => ?_)
        rw [say_3 c1 c2] at hQ
        exact hQ _ I' hp ⟨rfl, fun _ => ⟨h4, fun i hi => by have : i = 0 := (by simpa using hi); subst this; exact hr⟩⟩ (fun k _ _ => by dsimp only; rw [say_3 c1 c2])
      · have hd30 : dep = 30 := by omega
        simp only [if_neg c2, if_pos hd30] at s90
        refine sp_89r hV (by omega) hM hU n1 n2 (by decide) (by decide) s90 (fun I' hp h4 hr => ?_)
        rw [say_4 c1 c2] at hQ
        exact hQ _ I' hp ⟨rfl, fun _ => ⟨h4, fun i hi => by have : i = 0 := (by simpa using hi); subst this; exact hr⟩⟩ (fun k _ _ => by dsimp only; rw [say_4 c1 c2])
  | succ f IH =>
    intro e I dep n Q he hfd hR hM hU hwc a1 a2 a0 n1 n2 hch hchU hQ
    have s90 := fun {d : Nat} {Q : XO → Hp → Prop} => sp_90 (d := d) (Q := Q) (I := I) (L := L) (R := R) (G := G) hV (show dep ≤ 30 by omega) n1 n2
    obtain ⟨g0, g1, g2, g3, g4, g5, g6, g7⟩ := id hV
    by_cases c1 : n < 0 ∨ 999999999 < n
    · simp only [if_pos c1] at s90
      refine sp_89r hV (by omega) hM hU n1 n2 (by decide) (by decide) s90 (fun I' hp h4 hr => ?_)
      rw [say_2 c1] at hQ
      exact hQ _ I' hp ⟨rfl, fun _ => ⟨h4, fun i hi => by have : i = 0 := (by simpa using hi); subst this; exact hr⟩⟩ (fun k _ _ => by dsimp only; rw [say_2 c1])
    · simp only [if_neg c1] at s90
      by_cases c2 : n ∈ opl I v dep
      · simp only [if_pos c2] at s90
        refine sp_89r hV (by omega) hM hU n1 n2 (by decide) (by decide) s90 (fun I' hp h4 hr => ?_)
        rw [say_3 c1 c2] at hQ
        exact hQ _ I' hp ⟨rfl, fun _ => ⟨h4, fun i hi => by have : i = 0 := (by simpa using hi); subst this; exact hr⟩⟩ (fun k _ _ => by dsimp only; rw [say_3 c1 c2])
      · have hd30 : ¬ dep = 30 := by omega
        simp only [if_neg c2, if_neg hd30] at s90
        by_cases c3 : 0 < dep ∧ 1000 ≤ gi I v 9
        · simp only [if_pos c3] at s90
          have c3' : 1000 < gi I v 9 + (if dep = 0 then 0 else 1) := by rw [if_neg (by omega)]; omega
          refine sp_89r hV (by omega) hM hU n1 n2 (by decide) (by decide) s90 (fun I' hp h4 hr => ?_)
          rw [say_6 c1 c2 c3'] at hQ
          exact hQ _ I' hp ⟨rfl, fun _ => ⟨h4, fun i hi => by have : i = 0 := (by simpa using hi); subst this; exact hr⟩⟩ (fun k _ _ => by dsimp only; rw [say_6 c1 c2 c3'])
        · simp only [if_neg c3] at s90
          have m1 : 0 ≤ n := by omega
          have m2 : n ≤ 999999999 := by omega
          generalize hop : opl I v dep = op at *
          generalize ha : gi I v 9 + (if dep = 0 then 0 else 1) = a at *
          have ha1 : 0 ≤ a ∧ a ≤ 1000 := by
            by_cases hz : dep = 0
            · rw [if_pos hz, a0 hz] at ha; omega
            · rw [if_neg hz] at ha; omega
          have c3' : ¬ 1000 < a := by omega
          have main : ∀ I1 : MI, (∀ a, a ≠ v → I1 a = I a) → (∀ j, j ≠ 9 → I1 v j = I v j) → gi I1 v 9 = a → XX (e + 6) 89 49 [some (.ref v), some (.int (w n)), some (.int (w dep)), some (.int (w (-1))), none, none] [] (mk S I1 L R G) Q := by
            intro I1 hf1 hf2 h9
            have hp1 : vpost rs I I1 v dep := vpost.nine hM hU hf1 hf2
            have hM1 := hp1.2.2.2.1
            have hU1 := hp1.2.2.2.2.1
            have hR1 := hR.congr hp1.1 hp1.2.1
            have hbit : ∀ k, ubit I1 v k = ubit I v k := fun k => by unfold ubit; rw [hf2 4 (by decide)]
            have s91 := fun {d : Nat} {Q : XO → Hp → Prop} => sp_91 (d := d) (Q := Q) (I := I1) (L := L) (R := R) (G := G) (dep := dep) hV (show dep ≤ 30 by omega) n1 n2 (by omega) (by omega) (fun hs => by
              obtain ⟨x, x1, x2, x3, x4, -⟩ := hM1.facts hs
              have := ev_pos _ _ _ x1
              omega)
            by_cases cr : mSaid I1 (v + 1) n = true ∧ dep + gi I1 (v + 6) (sl n) ≤ 30 ∧ gi I1 v 9 + gi I1 (v + 5) (sl n) ≤ 1000
            · simp only [if_pos cr] at s91
              obtain ⟨x, x1, x2, x3, x4, x5, x6⟩ := hM1.facts cr.1
              have hxp := ev_pos _ _ _ x1
              have hxl := ev_len x1
              have hms := cr.1
              unfold mSaid at hms
              simp only [Nat.add_assoc, Nat.reduceAdd, Bool.and_eq_true, decide_eq_true_eq, Bool.not_eq_true', decide_eq_false_iff_not] at hms
              have hsay : say rs (f + 1) op a n = .inl (x.1, a + x.2.1) := ev_say 30 n x x1 (f + 1) op a (by omega) (by omega) (by omega) (fun m hm f' y hy => by
                obtain ⟨g, z, hz, hlt⟩ := hch m hm f' y hy
                rw [ev_det x1 hz]; exact hlt)
              simp (disch := omega) only [q_89_0, q_89_1, q_89_2, q_89_3, q_89_6, q_89_7, q_89_8, q_89_9, q_89_12, q_89_13, q_89_16, q_89_17, q_89_19, q_89_22, q_89_23, q_89_26, q_89_27, q_89_28, q_89_29, q_89_30, q_89_31, q_89_34, q_89_35, q_89_36, q_89_39, q_89_40, q_89_41, q_89_44, q_89_45, q_89_46, q_89_49, q_89_50, q_89_51, q_89_52, q_89_55, q_89_58, q_89_59, q_89_60, q_89_61, q_89_64, q_89_67, q_89_68, q_89_71, q_89_72, q_89_75, q_89_78, q_89_79, q_89_80, q_89_81, q_89_82, q_89_85, q_89_87, q_89_89, q_89_90, q_89_93, q_89_94, q_89_97, q_89_98, q_89_99, q_89_100, q_89_101, q_89_102, q_89_105, q_89_106, q_89_107, q_89_108, q_89_111, q_89_112, q_89_114, q_89_115, q_89_116, q_89_119, q_89_120, q_89_123, q_89_124, q_89_125, q_89_126, q_89_127, q_89_130, q_89_131, q_89_132, q_89_133, q_89_134, q_89_137, q_89_138, q_89_139, q_89_140, q_89_141, q_89_144, q_89_146, q_89_147, q_89_148, q_89_150, q_89_151, q_89_154, q_89_157, q_89_158, q_89_159, q_89_160, q_89_163, q_89_164, q_89_165, q_89_168, q_89_169, q_89_171, q_89_172, q_89_173, q_89_176, q_89_177, q_89_178, q_89_179, q_89_182, q_89_184, q_89_185, q_89_186, q_89_189, q_89_190, q_89_191, q_89_194, q_89_195, q_89_e, va_rf_s, bz_0, bz_1, bz_ok, bb_ok, Nat.add_assoc, w_lt, w_add, w_sub, w_mul, w_div, em_def, w_eq, w_inT, ↓ilt_t, ↓ilt_f, ↓ieq_t, ↓ieq_f, ntT, w_b, w_ix, kx_v, kx_n, kl_n, kl_i, kl_r, kl_o, inA_i, inA_s, inA_b, inA_z, inA_l, inA_0, inA_4, inA_5, inA_6, inA_7, inA_8, inA_9, inA_10, al_0, al_1, al_2, al_4, al_5, al_98, bsP_2, bsP_3, wr_same, wr_wr, wr_ne, up_same, up_ne, Nat.reduceAdd, Int.reduceAdd, Int.reduceSub, Int.reduceMul, Int.reduceLT, Int.reduceLE, Int.reduceEq, Int.reduceNeg, Int.reduceToNat, Nat.reduceLT, Nat.reduceLeDiff, Nat.reduceEqDiff, ↓reduceIte, true_and, and_true, not_true_eq_false, not_false_eq_true, eq_self, or_true, true_or, or_false, false_or, if_true, if_false, Int.toNat_natCast, w_ite, Nat.add_zero, reduceCtorEq, ne_eq, g0, s91]
              rw [hsay] at hQ
              refine hQ _ _ (hp1.trans (vpost.nine (dep := dep) hM1 hU1 (fun a ha => wr_ne ha) (fun j hj => by rw [wr_same, up_ne hj])) (Nat.le_refl _)) ⟨rfl, ?_, m1, m2, ?_, ?_⟩ (fun k hk hu => ?_)
              · rw [gi_wr, up_same, w_toInt (by omega) (by omega), h9, x3]
              · rw [gi_ne (by omega)]; exact hms.1.2
              · rw [gi_ne (by omega)]; exact hms.2
              · have hu' : ubit I1 v k = false := by
                  unfold ubit at hu ⊢; rw [wr_same, up_ne (by decide)] at hu; exact hu
                have hxe := (hU1 k hk hu' (sl n) (sl_bd n) (by omega)).2 hms.2
                rw [hms.1.2, x1] at hxe
                dsimp only
                rw [ev_say 30 n x hxe (f + 1) op a (by omega) (by omega) (by omega) (fun m hm f' y hy => by
                  obtain ⟨g, z, hz, hlt⟩ := hchU k hk (by rw [← hbit]; exact hu') m hm f' y hy
                  rw [ev_det hxe hz]; exact hlt)]
            · simp only [if_neg cr] at s91
              have t80 : XX (e + 6) 89 80 [some (.ref v), some (.int (w n)), some (.int (w dep)), some (.int (w (-1))), none, none] [] (mk S I1 L R G) Q := by
                have s82 := fun {d : Nat} {Q : XO → Hp → Prop} => sp_82 (d := d) (Q := Q) (G := G) hV hR1 m1 m2
                cases hk : ff rs n with
                | none =>
                  have hfz : ffz rs n = -1 := by unfold ffz; rw [hk]
                  rw [hfz] at s82
                  simp (disch := omega) only [q_89_0, q_89_1, q_89_2, q_89_3, q_89_6, q_89_7, q_89_8, q_89_9, q_89_12, q_89_13, q_89_16, q_89_17, q_89_19, q_89_22, q_89_23, q_89_26, q_89_27, q_89_28, q_89_29, q_89_30, q_89_31, q_89_34, q_89_35, q_89_36, q_89_39, q_89_40, q_89_41, q_89_44, q_89_45, q_89_46, q_89_49, q_89_50, q_89_51, q_89_52, q_89_55, q_89_58, q_89_59, q_89_60, q_89_61, q_89_64, q_89_67, q_89_68, q_89_71, q_89_72, q_89_75, q_89_78, q_89_79, q_89_80, q_89_81, q_89_82, q_89_85, q_89_87, q_89_89, q_89_90, q_89_93, q_89_94, q_89_97, q_89_98, q_89_99, q_89_100, q_89_101, q_89_102, q_89_105, q_89_106, q_89_107, q_89_108, q_89_111, q_89_112, q_89_114, q_89_115, q_89_116, q_89_119, q_89_120, q_89_123, q_89_124, q_89_125, q_89_126, q_89_127, q_89_130, q_89_131, q_89_132, q_89_133, q_89_134, q_89_137, q_89_138, q_89_139, q_89_140, q_89_141, q_89_144, q_89_146, q_89_147, q_89_148, q_89_150, q_89_151, q_89_154, q_89_157, q_89_158, q_89_159, q_89_160, q_89_163, q_89_164, q_89_165, q_89_168, q_89_169, q_89_171, q_89_172, q_89_173, q_89_176, q_89_177, q_89_178, q_89_179, q_89_182, q_89_184, q_89_185, q_89_186, q_89_189, q_89_190, q_89_191, q_89_194, q_89_195, q_89_e, va_rf_s, bz_0, bz_1, bz_ok, bb_ok, Nat.add_assoc, w_lt, w_add, w_sub, w_mul, w_div, em_def, w_eq, w_inT, ↓ilt_t, ↓ilt_f, ↓ieq_t, ↓ieq_f, ntT, w_b, w_ix, kx_v, kx_n, kl_n, kl_i, kl_r, kl_o, inA_i, inA_s, inA_b, inA_z, inA_l, inA_0, inA_4, inA_5, inA_6, inA_7, inA_8, inA_9, inA_10, al_0, al_1, al_2, al_4, al_5, al_98, bsP_2, bsP_3, wr_same, wr_wr, wr_ne, up_same, up_ne, Nat.reduceAdd, Int.reduceAdd, Int.reduceSub, Int.reduceMul, Int.reduceLT, Int.reduceLE, Int.reduceEq, Int.reduceNeg, Int.reduceToNat, Nat.reduceLT, Nat.reduceLeDiff, Nat.reduceEqDiff, ↓reduceIte, true_and, and_true, not_true_eq_false, not_false_eq_true, eq_self, or_true, true_or, or_false, false_or, if_true, if_false, Int.toNat_natCast, w_ite, Nat.add_zero, reduceCtorEq, ne_eq, g0, g2.1, s82]
                  refine sp_9 g2 (by omega) n1 n2 (by decide) (by decide) (by decide) (by decide) (by decide) (by decide) (fun I3 f1 f2 f3 f4 => ?_)
                  simp (disch := omega) only [q_89_0, q_89_1, q_89_2, q_89_3, q_89_6, q_89_7, q_89_8, q_89_9, q_89_12, q_89_13, q_89_16, q_89_17, q_89_19, q_89_22, q_89_23, q_89_26, q_89_27, q_89_28, q_89_29, q_89_30, q_89_31, q_89_34, q_89_35, q_89_36, q_89_39, q_89_40, q_89_41, q_89_44, q_89_45, q_89_46, q_89_49, q_89_50, q_89_51, q_89_52, q_89_55, q_89_58, q_89_59, q_89_60, q_89_61, q_89_64, q_89_67, q_89_68, q_89_71, q_89_72, q_89_75, q_89_78, q_89_79, q_89_80, q_89_81, q_89_82, q_89_85, q_89_87, q_89_89, q_89_90, q_89_93, q_89_94, q_89_97, q_89_98, q_89_99, q_89_100, q_89_101, q_89_102, q_89_105, q_89_106, q_89_107, q_89_108, q_89_111, q_89_112, q_89_114, q_89_115, q_89_116, q_89_119, q_89_120, q_89_123, q_89_124, q_89_125, q_89_126, q_89_127, q_89_130, q_89_131, q_89_132, q_89_133, q_89_134, q_89_137, q_89_138, q_89_139, q_89_140, q_89_141, q_89_144, q_89_146, q_89_147, q_89_148, q_89_150, q_89_151, q_89_154, q_89_157, q_89_158, q_89_159, q_89_160, q_89_163, q_89_164, q_89_165, q_89_168, q_89_169, q_89_171, q_89_172, q_89_173, q_89_176, q_89_177, q_89_178, q_89_179, q_89_182, q_89_184, q_89_185, q_89_186, q_89_189, q_89_190, q_89_191, q_89_194, q_89_195, q_89_e, va_rf_s, bz_0, bz_1, bz_ok, bb_ok, Nat.add_assoc, w_lt, w_add, w_sub, w_mul, w_div, em_def, w_eq, w_inT, ↓ilt_t, ↓ilt_f, ↓ieq_t, ↓ieq_f, ntT, w_b, w_ix, kx_v, kx_n, kl_n, kl_i, kl_r, kl_o, inA_i, inA_s, inA_b, inA_z, inA_l, inA_0, inA_4, inA_5, inA_6, inA_7, inA_8, inA_9, inA_10, al_0, al_1, al_2, al_4, al_5, al_98, bsP_2, bsP_3, wr_same, wr_wr, wr_ne, up_same, up_ne, Nat.reduceAdd, Int.reduceAdd, Int.reduceSub, Int.reduceMul, Int.reduceLT, Int.reduceLE, Int.reduceEq, Int.reduceNeg, Int.reduceToNat, Nat.reduceLT, Nat.reduceLeDiff, Nat.reduceEqDiff, ↓reduceIte, true_and, and_true, not_true_eq_false, not_false_eq_true, eq_self, or_true, true_or, or_false, false_or, if_true, if_false, Int.toNat_natCast, w_ite, Nat.add_zero, reduceCtorEq, ne_eq]
                  rw [say_1 c1 c2 c3' hk] at hQ
                  refine hQ _ I3 (hp1.tail (fun a ha => f1 a (by omega))) ⟨rfl, fun _ => ⟨by rw [f4, if_neg (by decide)]; rfl, fun i hi => by have : i = 0 := (by simpa using hi); subst this; exact f3⟩⟩ (fun k _ _ => ?_)
                  dsimp only
                  rw [say_1 c1 c2 c3' (fi_erase_none rs k hk)]
                | some k =>
                  have hkl := (ff_get hk).1
                  obtain ⟨r, r1, r2, r3⟩ := hR1.2.2 k hkl
                  have h30 := hR1.2.1
                  have hrk : rs[k]? = some (rs.getD k rd0) := by rw [List.getD_eq_getElem?_getD, List.getElem?_eq_getElem hkl]; rfl
                  have hfz : ffz rs n = k := by unfold ffz; rw [hk]
                  rw [hfz] at s82
                  obtain ⟨e', rfl⟩ : ∃ e', e = e' + 2 := ⟨e - 2, by omega⟩
                  have e9 : I1 v 9 = w a := by rw [gi_w I1 v 9, h9]
                  have H : ∀ I3 : MI, (∀ a, a ≠ v → a ≠ v + 13 → a ≠ v + 15 → a ≠ v + 16 → I3 a = I1 a) → (∀ j, j ≠ 4 → I3 v j = I1 v j) → (∀ j, ubit I3 v j = (ubit I1 v j || (decide (j = k) && decide (j < 32)))) → (I3 (v + 13) dep = w n ∧ ∀ i, i ≠ dep → I3 (v + 13) i = I1 (v + 13) i) → (I3 (v + 15) dep = w 0 ∧ ∀ i, i ≠ dep → I3 (v + 15) i = I1 (v + 15) i) → (I3 (v + 16) dep = w 1 ∧ ∀ i, i ≠ dep → I3 (v + 16) i = I1 (v + 16) i) →
                      XX (e' + 7) 92 45 [some (.ref v), some (.int (w n)), some (.int (w k)), some (.int (w dep)), some (.ref r), some (.int (w 0)), some (.int (w 0)), none, none, none, none] [] (mk S I3 L R G) (XK (e' + 8) 89 151 [some (.ref v), some (.int (w n)), some (.int (w dep)), some (.int (w (-1))), some (.int (w k)), some (.int (w a))] [] Q) := by
                    intro I3 f1 f2 f3 f4 f5 f6
                    have hubt : ∀ j, ubit I1 v j = true → ubit I3 v j = true := fun j h => by rw [f3, h]; rfl
                    have hp3 : vpost rs I1 I3 v dep := by
                      refine ⟨fun a ha => f1 a (by omega) (by omega) (by omega) (by omega), f2 3 (by decide), f2 10 (by decide), hM1.congr (f1 _ (by omega) (by omega) (by omega) (by omega)) (f1 _ (by omega) (by omega) (by omega) (by omega)) (f1 _ (by omega) (by omega) (by omega) (by omega)) (f1 _ (by omega) (by omega) (by omega) (by omega)) (f1 _ (by omega) (by omega) (by omega) (by omega)), hU1.congr hubt (f1 _ (by omega) (by omega) (by omega) (by omega)) (f1 _ (by omega) (by omega) (by omega) (by omega)), fun i hi => ⟨f4.2 i (by omega), f5.2 i (by omega), f6.2 i (by omega)⟩, fun j _ => by rw [f1 _ (by omega) (by omega) (by omega) (by omega)], fun s _ h => ?_, hubt⟩
                      rw [gi_congr (f1 _ (by omega) (by omega) (by omega) (by omega))]; exact h
                    have hop3 : opl I3 v dep = op := by
                      rw [opl_congr (fun i hi => f4.2 i (by omega)), opl_congr (fun i _ => by rw [hf1 _ (by omega)]), hop]
                    have h93 : gi I3 v 9 = a := by rw [gi_congr2 (f2 9 (by decide)), h9]
                    have hk3 : ubit I3 v k = true := by rw [f3, decide_eq_true rfl, decide_eq_true (by omega)]; simp
                    have hun : ∀ k2, ubit I3 v k2 = false → ubit I v k2 = false := fun k2 h => by
                      rw [f3, hbit] at h
                      cases e : ubit I v k2 with
                      | false => rfl
                      | true => rw [e] at h; cases h
                    have hsayk := say_k (f := f) (a := a) c1 c2 c3' hk hrk
                    refine sp_92 (I := I3) hV (IH) (show 2 * f ≤ e' by omega) (by omega) (hR1.congr hp3.1 hp3.2.1) m1 m2 hk rfl r1 r2 (r3.congr (hp3.1 _ (by omega)) (hp3.1 _ (by omega)) (hp3.1 _ (by omega))) (by rw [hp3.2.2.1, hf2 10 (by decide)]; exact hwc) (by rw [hop3]; exact hch) hk3 (fun k2 hk2 hu2 => by rw [hop3]; exact hchU k2 hk2 (hun k2 hu2)) f4.1 (rs.getD k rd0).2.2.2.2.length 0 [] false 1 I3 none none none none _ (by omega) (vpost.refl hp3.2.2.2.1 hp3.2.2.2.2.1) f4.1 f5.1 (by decide) (fun i hi => nomatch hi) f6.1 (by decide) (by omega) (by omega) (fun o I' hp' hop' hbt hb hag hag2 => ?_)
                    rw [hop3, h93, List.drop_zero] at hb hag hag2
                    simp only [Int.natCast_zero] at hb hag hag2
                    rw [← hsayk] at hb hag hag2
                    have hpI := (hp1.trans hp3 (Nat.le_refl _)).trans hp' (Nat.le_refl _)
                    have hkI : ubit I' v k = true := hp'.2.2.2.2.2.2.2.2 k hk3
                    have hne : ∀ k2, ubit I' v k2 = false → k2 ≠ k := fun k2 h e => by rw [e, hkI] at h; cases h
                    have hagr : agr rs I' v (say rs (f + 1) op a n) (fun rs' => say rs' (f + 1) op a n) := fun k2 hk2 hu2 => by
                      obtain ⟨j, j1, j2⟩ := fi_erase rs k2 k hk (hne k2 hu2)
                      have := hag j k2 hk2 hu2
                      dsimp only at this ⊢
                      rw [say_k c1 c2 c3' j1 (j2.trans hrk)]
                      exact this
                    cases hS : say rs (f + 1) op a n with
                    | inr l =>
                      rw [hS] at hb hagr hQ
                      obtain ⟨rfl, hb⟩ := hb
                      simp (disch := omega) only [q_89_0, q_89_1, q_89_2, q_89_3, q_89_6, q_89_7, q_89_8, q_89_9, q_89_12, q_89_13, q_89_16, q_89_17, q_89_19, q_89_22, q_89_23, q_89_26, q_89_27, q_89_28, q_89_29, q_89_30, q_89_31, q_89_34, q_89_35, q_89_36, q_89_39, q_89_40, q_89_41, q_89_44, q_89_45, q_89_46, q_89_49, q_89_50, q_89_51, q_89_52, q_89_55, q_89_58, q_89_59, q_89_60, q_89_61, q_89_64, q_89_67, q_89_68, q_89_71, q_89_72, q_89_75, q_89_78, q_89_79, q_89_80, q_89_81, q_89_82, q_89_85, q_89_87, q_89_89, q_89_90, q_89_93, q_89_94, q_89_97, q_89_98, q_89_99, q_89_100, q_89_101, q_89_102, q_89_105, q_89_106, q_89_107, q_89_108, q_89_111, q_89_112, q_89_114, q_89_115, q_89_116, q_89_119, q_89_120, q_89_123, q_89_124, q_89_125, q_89_126, q_89_127, q_89_130, q_89_131, q_89_132, q_89_133, q_89_134, q_89_137, q_89_138, q_89_139, q_89_140, q_89_141, q_89_144, q_89_146, q_89_147, q_89_148, q_89_150, q_89_151, q_89_154, q_89_157, q_89_158, q_89_159, q_89_160, q_89_163, q_89_164, q_89_165, q_89_168, q_89_169, q_89_171, q_89_172, q_89_173, q_89_176, q_89_177, q_89_178, q_89_179, q_89_182, q_89_184, q_89_185, q_89_186, q_89_189, q_89_190, q_89_191, q_89_194, q_89_195, q_89_e, va_rf_s, bz_0, bz_1, bz_ok, bb_ok, Nat.add_assoc, w_lt, w_add, w_sub, w_mul, w_div, em_def, w_eq, w_inT, ↓ilt_t, ↓ilt_f, ↓ieq_t, ↓ieq_f, ntT, w_b, w_ix, kx_v, kx_n, kl_n, kl_i, kl_r, kl_o, inA_i, inA_s, inA_b, inA_z, inA_l, inA_0, inA_4, inA_5, inA_6, inA_7, inA_8, inA_9, inA_10, al_0, al_1, al_2, al_4, al_5, al_98, bsP_2, bsP_3, wr_same, wr_wr, wr_ne, up_same, up_ne, Nat.reduceAdd, Int.reduceAdd, Int.reduceSub, Int.reduceMul, Int.reduceLT, Int.reduceLE, Int.reduceEq, Int.reduceNeg, Int.reduceToNat, Nat.reduceLT, Nat.reduceLeDiff, Nat.reduceEqDiff, ↓reduceIte, true_and, and_true, not_true_eq_false, not_false_eq_true, eq_self, or_true, true_or, or_false, false_or, if_true, if_false, Int.toNat_natCast, w_ite, Nat.add_zero, reduceCtorEq, ne_eq]
                      exact hQ _ I' hpI ⟨rfl, fun hc => hb (by rw [hp3.2.2.1, hf2 10 (by decide)]; exact hc)⟩ hagr
                    | inl y =>
                      obtain ⟨t, b⟩ := y
                      rw [hS] at hb hagr hQ hag2
                      obtain ⟨rfl, hb9, hb1, hb2, hb3⟩ := hb
                      obtain ⟨H, hH1, hH2⟩ := hb3 0
                      rw [hb9, Int.zero_add] at hH1
                      obtain ⟨h', hv1, hv2, hv3⟩ := say_ev _ _ _ _ _ _ hS
                      have h31 : ev rs 31 n = some (t, b - a, H) := ev_out m1 m2 hk hrk hH1
                      have hdet := ev_det h31 hv1
                      have hH : H ≤ 30 := by
                        have := (ev_pos _ _ _ hv1).2.2
                        rw [← hdet] at this
                        dsimp only at this
                        omega
                      have h30' := ev_at _ _ _ h31 30 hH
                      have hl := ev_len h30'
                      have hpos := ev_pos _ _ _ h30'
                      dsimp only at hl hpos
                      have eb9 : I' v 9 = w b := by rw [gi_w I' v 9, hb9]
                      have s35 := fun {d : Nat} {Q : XO → Hp → Prop} => sp_35 (d := d) (Q := Q) (I := I') (L := L) (R := R) (G := G) (a := v + 1) (k := b - a) (h := H) g1 m1 (show n < 2147483648 by omega) hl g5 (show dep * 100 + t.length ≤ 3000 by omega) (by decide) (by omega) hb2
                      simp only [Int.natCast_mul] at s35
                      simp (disch := omega) only [q_89_0, q_89_1, q_89_2, q_89_3, q_89_6, q_89_7, q_89_8, q_89_9, q_89_12, q_89_13, q_89_16, q_89_17, q_89_19, q_89_22, q_89_23, q_89_26, q_89_27, q_89_28, q_89_29, q_89_30, q_89_31, q_89_34, q_89_35, q_89_36, q_89_39, q_89_40, q_89_41, q_89_44, q_89_45, q_89_46, q_89_49, q_89_50, q_89_51, q_89_52, q_89_55, q_89_58, q_89_59, q_89_60, q_89_61, q_89_64, q_89_67, q_89_68, q_89_71, q_89_72, q_89_75, q_89_78, q_89_79, q_89_80, q_89_81, q_89_82, q_89_85, q_89_87, q_89_89, q_89_90, q_89_93, q_89_94, q_89_97, q_89_98, q_89_99, q_89_100, q_89_101, q_89_102, q_89_105, q_89_106, q_89_107, q_89_108, q_89_111, q_89_112, q_89_114, q_89_115, q_89_116, q_89_119, q_89_120, q_89_123, q_89_124, q_89_125, q_89_126, q_89_127, q_89_130, q_89_131, q_89_132, q_89_133, q_89_134, q_89_137, q_89_138, q_89_139, q_89_140, q_89_141, q_89_144, q_89_146, q_89_147, q_89_148, q_89_150, q_89_151, q_89_154, q_89_157, q_89_158, q_89_159, q_89_160, q_89_163, q_89_164, q_89_165, q_89_168, q_89_169, q_89_171, q_89_172, q_89_173, q_89_176, q_89_177, q_89_178, q_89_179, q_89_182, q_89_184, q_89_185, q_89_186, q_89_189, q_89_190, q_89_191, q_89_194, q_89_195, q_89_e, va_rf_s, bz_0, bz_1, bz_ok, bb_ok, Nat.add_assoc, w_lt, w_add, w_sub, w_mul, w_div, em_def, w_eq, w_inT, ↓ilt_t, ↓ilt_f, ↓ieq_t, ↓ieq_f, ntT, w_b, w_ix, kx_v, kx_n, kl_n, kl_i, kl_r, kl_o, inA_i, inA_s, inA_b, inA_z, inA_l, inA_0, inA_4, inA_5, inA_6, inA_7, inA_8, inA_9, inA_10, al_0, al_1, al_2, al_4, al_5, al_98, bsP_2, bsP_3, wr_same, wr_wr, wr_ne, up_same, up_ne, Nat.reduceAdd, Int.reduceAdd, Int.reduceSub, Int.reduceMul, Int.reduceLT, Int.reduceLE, Int.reduceEq, Int.reduceNeg, Int.reduceToNat, Nat.reduceLT, Nat.reduceLeDiff, Nat.reduceEqDiff, ↓reduceIte, true_and, and_true, not_true_eq_false, not_false_eq_true, eq_self, or_true, true_or, or_false, false_or, if_true, if_false, Int.toNat_natCast, w_ite, Nat.add_zero, reduceCtorEq, ne_eq, g0, g1.1, g5, g6, g7, hb1, hH2, eb9]
                      refine (s35).mpr ?_
                      simp (disch := omega) only [q_89_0, q_89_1, q_89_2, q_89_3, q_89_6, q_89_7, q_89_8, q_89_9, q_89_12, q_89_13, q_89_16, q_89_17, q_89_19, q_89_22, q_89_23, q_89_26, q_89_27, q_89_28, q_89_29, q_89_30, q_89_31, q_89_34, q_89_35, q_89_36, q_89_39, q_89_40, q_89_41, q_89_44, q_89_45, q_89_46, q_89_49, q_89_50, q_89_51, q_89_52, q_89_55, q_89_58, q_89_59, q_89_60, q_89_61, q_89_64, q_89_67, q_89_68, q_89_71, q_89_72, q_89_75, q_89_78, q_89_79, q_89_80, q_89_81, q_89_82, q_89_85, q_89_87, q_89_89, q_89_90, q_89_93, q_89_94, q_89_97, q_89_98, q_89_99, q_89_100, q_89_101, q_89_102, q_89_105, q_89_106, q_89_107, q_89_108, q_89_111, q_89_112, q_89_114, q_89_115, q_89_116, q_89_119, q_89_120, q_89_123, q_89_124, q_89_125, q_89_126, q_89_127, q_89_130, q_89_131, q_89_132, q_89_133, q_89_134, q_89_137, q_89_138, q_89_139, q_89_140, q_89_141, q_89_144, q_89_146, q_89_147, q_89_148, q_89_150, q_89_151, q_89_154, q_89_157, q_89_158, q_89_159, q_89_160, q_89_163, q_89_164, q_89_165, q_89_168, q_89_169, q_89_171, q_89_172, q_89_173, q_89_176, q_89_177, q_89_178, q_89_179, q_89_182, q_89_184, q_89_185, q_89_186, q_89_189, q_89_190, q_89_191, q_89_194, q_89_195, q_89_e, va_rf_s, bz_0, bz_1, bz_ok, bb_ok, Nat.add_assoc, w_lt, w_add, w_sub, w_mul, w_div, em_def, w_eq, w_inT, ↓ilt_t, ↓ilt_f, ↓ieq_t, ↓ieq_f, ntT, w_b, w_ix, kx_v, kx_n, kl_n, kl_i, kl_r, kl_o, inA_i, inA_s, inA_b, inA_z, inA_l, inA_0, inA_4, inA_5, inA_6, inA_7, inA_8, inA_9, inA_10, al_0, al_1, al_2, al_4, al_5, al_98, bsP_2, bsP_3, wr_same, wr_wr, wr_ne, up_same, up_ne, Nat.reduceAdd, Int.reduceAdd, Int.reduceSub, Int.reduceMul, Int.reduceLT, Int.reduceLE, Int.reduceEq, Int.reduceNeg, Int.reduceToNat, Nat.reduceLT, Nat.reduceLeDiff, Nat.reduceEqDiff, ↓reduceIte, true_and, and_true, not_true_eq_false, not_false_eq_true, eq_self, or_true, true_or, or_false, false_or, if_true, if_false, Int.toNat_natCast, w_ite, Nat.add_zero, reduceCtorEq, ne_eq]
                      have hue : ∀ k2, k2 < rs.length → ubit I' v k2 = false → ev (rs.eraseIdx k2) 30 n = ev rs 30 n := fun k2 hk2 hu2 => by
                        obtain ⟨j, j1, j2⟩ := fi_erase rs k2 k hk (hne k2 hu2)
                        have := hag2 k2 hk2 hu2 ⟨_, rfl⟩ 0
                        rw [hH1] at this
                        rw [h30']
                        exact ev_at _ _ _ (ev_out (f := 30) m1 m2 j1 (j2.trans hrk) this) 30 hH
                      have hkp := hpI.kept m1 m2 h30' (by omega) hue
                      refine hQ _ _ hkp ⟨rfl, ?_, m1, m2, ?_, ?_⟩ (fun k2 hk2 hu2 => hagr k2 hk2 ?_)
                      · unfold keptI; simp (disch := omega) only [gi_ne]; exact hb9
                      · unfold keptI; simp (disch := omega) only [gi_ne, gi_wr, up_same, w_toInt, Nat.add_assoc, Nat.reduceAdd]
                      · unfold keptI; simp (disch := omega) only [gi_ne, gi_wr, up_same, w_toInt, Nat.add_assoc, Nat.reduceAdd]; omega
                      · unfold ubit keptI at *; simp (disch := omega) only [wr_ne] at hu2; exact hu2
                  simp (disch := omega) only [q_89_0, q_89_1, q_89_2, q_89_3, q_89_6, q_89_7, q_89_8, q_89_9, q_89_12, q_89_13, q_89_16, q_89_17, q_89_19, q_89_22, q_89_23, q_89_26, q_89_27, q_89_28, q_89_29, q_89_30, q_89_31, q_89_34, q_89_35, q_89_36, q_89_39, q_89_40, q_89_41, q_89_44, q_89_45, q_89_46, q_89_49, q_89_50, q_89_51, q_89_52, q_89_55, q_89_58, q_89_59, q_89_60, q_89_61, q_89_64, q_89_67, q_89_68, q_89_71, q_89_72, q_89_75, q_89_78, q_89_79, q_89_80, q_89_81, q_89_82, q_89_85, q_89_87, q_89_89, q_89_90, q_89_93, q_89_94, q_89_97, q_89_98, q_89_99, q_89_100, q_89_101, q_89_102, q_89_105, q_89_106, q_89_107, q_89_108, q_89_111, q_89_112, q_89_114, q_89_115, q_89_116, q_89_119, q_89_120, q_89_123, q_89_124, q_89_125, q_89_126, q_89_127, q_89_130, q_89_131, q_89_132, q_89_133, q_89_134, q_89_137, q_89_138, q_89_139, q_89_140, q_89_141, q_89_144, q_89_146, q_89_147, q_89_148, q_89_150, q_89_151, q_89_154, q_89_157, q_89_158, q_89_159, q_89_160, q_89_163, q_89_164, q_89_165, q_89_168, q_89_169, q_89_171, q_89_172, q_89_173, q_89_176, q_89_177, q_89_178, q_89_179, q_89_182, q_89_184, q_89_185, q_89_186, q_89_189, q_89_190, q_89_191, q_89_194, q_89_195, q_89_e, q_92_0, q_92_1, q_92_4, q_92_5, q_92_7, q_92_10, q_92_11, q_92_14, q_92_15, q_92_16, q_92_19, q_92_20, q_92_20o, q_92_22, q_92_22o, q_92_24o, q_92_24, q_92_27, q_92_28, q_92_31, q_92_32, q_92_34, q_92_37, q_92_38, q_92_39, q_92_40, q_92_42, q_92_43, q_92_47, q_92_47o, q_92_49, q_92_52, q_92_55, q_92_55o, q_92_57, q_92_59, q_92_62, q_92_64, q_92_66, q_92_68, q_92_71, q_92_72, q_92_74, q_92_77, q_92_77o, q_92_79, q_92_81, q_92_82, q_92_85, q_92_88, q_92_91, q_92_92, q_92_95, q_92_96, q_92_97, q_92_99, q_92_101, q_92_104, q_92_105, q_92_105o, q_92_107, q_92_109, q_92_110, q_92_112, q_92_112o, q_92_115, q_92_117, q_92_120, q_92_120o, q_92_122, q_92_124, q_92_125, q_92_128, q_92_130, q_92_131, q_92_133, q_92_134, q_92_135, q_92_136, q_92_139, q_92_142, q_92_143, q_92_146, q_92_147, q_92_148, q_92_149, q_92_150, q_92_152, q_92_155, q_92_156, q_92_157, q_92_159, q_92_160, q_92_162, q_92_165, q_92_167, q_92_169, q_92_172, q_92_173, q_92_176, q_92_177, q_92_178, q_92_179, q_92_180, q_92_182, q_92_185, q_92_186, q_92_187, q_92_190, q_92_191, q_92_192, q_92_194, q_92_197, q_92_198, q_92_200, q_92_203, q_92_206, q_92_207, q_92_e, va_rf_s, bz_0, bz_1, bz_ok, bb_ok, Nat.add_assoc, w_lt, w_add, w_sub, w_mul, w_div, em_def, w_eq, w_inT, ↓ilt_t, ↓ilt_f, ↓ieq_t, ↓ieq_f, ntT, w_b, w_ix, kx_v, kx_n, kl_n, kl_i, kl_r, kl_o, inA_i, inA_s, inA_b, inA_z, inA_l, inA_0, inA_4, inA_5, inA_6, inA_7, inA_8, inA_9, inA_10, al_0, al_1, al_2, al_4, al_5, al_98, bsP_2, bsP_3, wr_same, wr_wr, wr_ne, up_same, up_ne, Nat.reduceAdd, Int.reduceAdd, Int.reduceSub, Int.reduceMul, Int.reduceLT, Int.reduceLE, Int.reduceEq, Int.reduceNeg, Int.reduceToNat, Nat.reduceLT, Nat.reduceLeDiff, Nat.reduceEqDiff, ↓reduceIte, true_and, and_true, not_true_eq_false, not_false_eq_true, eq_self, or_true, true_or, or_false, false_or, if_true, if_false, Int.toNat_natCast, w_ite, Nat.add_zero, reduceCtorEq, ne_eq, g0, g1.1, g3, g4, g6, g7, s82, e9, r1]
                  refine H _ (fun a b1 b2 b3 b4 => ?_) (fun j hj => ?_) (fun j => ?_) ⟨?_, fun i hi => ?_⟩ ⟨?_, fun i hi => ?_⟩ ⟨?_, fun i hi => ?_⟩
                  · simp (disch := omega) only [wr_ne]
                  · simp (disch := omega) only [wr_ne, wr_same, up_ne]
                  · unfold ubit; simp (disch := omega) only [wr_ne, wr_same, up_same]; exact ubit_or (by omega)
                  · simp (disch := omega) only [wr_ne, wr_same, up_same]
                  · simp (disch := omega) only [wr_ne, wr_same, up_ne]
                  · simp (disch := omega) only [wr_ne, wr_same, up_same]
                  · simp (disch := omega) only [wr_ne, wr_same, up_ne]
                  · simp (disch := omega) only [wr_ne, wr_same, up_same]
                  · simp (disch := omega) only [wr_ne, wr_same, up_ne]
              rcases hwc with hwc | hwc
              · have hw1 : I1 v 10 = w 0 := (hf2 10 (by decide)).trans hwc
                have s29 := fun {d : Nat} {Q : XO → Hp → Prop} => sp_29 (d := d) (Q := Q) (I := I1) (L := L) (R := R) (G := G) g1 n1 n2
                simp (disch := omega) only [q_89_0, q_89_1, q_89_2, q_89_3, q_89_6, q_89_7, q_89_8, q_89_9, q_89_12, q_89_13, q_89_16, q_89_17, q_89_19, q_89_22, q_89_23, q_89_26, q_89_27, q_89_28, q_89_29, q_89_30, q_89_31, q_89_34, q_89_35, q_89_36, q_89_39, q_89_40, q_89_41, q_89_44, q_89_45, q_89_46, q_89_49, q_89_50, q_89_51, q_89_52, q_89_55, q_89_58, q_89_59, q_89_60, q_89_61, q_89_64, q_89_67, q_89_68, q_89_71, q_89_72, q_89_75, q_89_78, q_89_79, q_89_81, q_89_82, q_89_85, q_89_87, q_89_89, q_89_90, q_89_93, q_89_94, q_89_97, q_89_98, q_89_99, q_89_100, q_89_101, q_89_102, q_89_105, q_89_106, q_89_107, q_89_108, q_89_111, q_89_112, q_89_114, q_89_115, q_89_116, q_89_119, q_89_120, q_89_123, q_89_124, q_89_125, q_89_126, q_89_127, q_89_130, q_89_131, q_89_132, q_89_133, q_89_134, q_89_137, q_89_138, q_89_139, q_89_140, q_89_141, q_89_144, q_89_146, q_89_147, q_89_148, q_89_150, q_89_151, q_89_154, q_89_157, q_89_158, q_89_159, q_89_160, q_89_163, q_89_164, q_89_165, q_89_168, q_89_169, q_89_171, q_89_172, q_89_173, q_89_176, q_89_177, q_89_178, q_89_179, q_89_182, q_89_184, q_89_185, q_89_186, q_89_189, q_89_190, q_89_191, q_89_194, q_89_195, q_89_e, va_rf_s, bz_0, bz_1, bz_ok, bb_ok, Nat.add_assoc, w_lt, w_add, w_sub, w_mul, w_div, em_def, w_eq, w_inT, ↓ilt_t, ↓ilt_f, ↓ieq_t, ↓ieq_f, ntT, w_b, w_ix, kx_v, kx_n, kl_n, kl_i, kl_r, kl_o, inA_i, inA_s, inA_b, inA_z, inA_l, inA_0, inA_4, inA_5, inA_6, inA_7, inA_8, inA_9, inA_10, al_0, al_1, al_2, al_4, al_5, al_98, bsP_2, bsP_3, wr_same, wr_wr, wr_ne, up_same, up_ne, Nat.reduceAdd, Int.reduceAdd, Int.reduceSub, Int.reduceMul, Int.reduceLT, Int.reduceLE, Int.reduceEq, Int.reduceNeg, Int.reduceToNat, Nat.reduceLT, Nat.reduceLeDiff, Nat.reduceEqDiff, ↓reduceIte, true_and, and_true, not_true_eq_false, not_false_eq_true, eq_self, or_true, true_or, or_false, false_or, if_true, if_false, Int.toNat_natCast, w_ite, Nat.add_zero, reduceCtorEq, ne_eq, g0, g1.1, s91, hw1, s29]
                by_cases hsil : mSil I1 (v + 1) n = true
                · rw [if_neg (by rw [hsil]; decide)]
                  unfold mSil at hsil
                  simp only [Nat.add_assoc, Nat.reduceAdd, Bool.and_eq_true, decide_eq_true_eq] at hsil
                  have hm := hM1 (sl n) (sl_bd n)
                  unfold mOk at hm
                  rw [hsil.1.2] at hm
                  have hsd : sd rs n = none := by
                    rcases hm with hm | ⟨-, -, -, hm | ⟨x, x1, x2, x3, -⟩⟩
                    · omega
                    · exact hm.2
                    · have := gi_eq x3 (by omega) (by have := ev_len x1; omega)
                      omega
                  obtain ⟨l, hl⟩ := sd_none hsd (show f + 1 ≤ 30 by omega) op ha1.1
                  rw [hl] at hQ
                  refine hQ _ I1 hp1 ⟨rfl, fun hc => ?_⟩ (fun k hk hu => ?_)
                  · rw [hwc] at hc; exact absurd hc (by decide)
                  · have := (hU1 k hk hu (sl n) (sl_bd n) (by omega)).1 hsil.2
                    rw [hsil.1.2] at this
                    obtain ⟨l', hl'⟩ := sd_none this (show f + 1 ≤ 30 by omega) op ha1.1
                    dsimp only
                    rw [hl']; rfl
                · rw [if_pos (by simpa using hsil)]
                  exact t80
              · have hw1 : I1 v 10 = w 1 := (hf2 10 (by decide)).trans hwc
                simp (disch := omega) only [q_89_0, q_89_1, q_89_2, q_89_3, q_89_6, q_89_7, q_89_8, q_89_9, q_89_12, q_89_13, q_89_16, q_89_17, q_89_19, q_89_22, q_89_23, q_89_26, q_89_27, q_89_28, q_89_29, q_89_30, q_89_31, q_89_34, q_89_35, q_89_36, q_89_39, q_89_40, q_89_41, q_89_44, q_89_45, q_89_46, q_89_49, q_89_50, q_89_51, q_89_52, q_89_55, q_89_58, q_89_59, q_89_60, q_89_61, q_89_64, q_89_67, q_89_68, q_89_71, q_89_72, q_89_75, q_89_78, q_89_79, q_89_81, q_89_82, q_89_85, q_89_87, q_89_89, q_89_90, q_89_93, q_89_94, q_89_97, q_89_98, q_89_99, q_89_100, q_89_101, q_89_102, q_89_105, q_89_106, q_89_107, q_89_108, q_89_111, q_89_112, q_89_114, q_89_115, q_89_116, q_89_119, q_89_120, q_89_123, q_89_124, q_89_125, q_89_126, q_89_127, q_89_130, q_89_131, q_89_132, q_89_133, q_89_134, q_89_137, q_89_138, q_89_139, q_89_140, q_89_141, q_89_144, q_89_146, q_89_147, q_89_148, q_89_150, q_89_151, q_89_154, q_89_157, q_89_158, q_89_159, q_89_160, q_89_163, q_89_164, q_89_165, q_89_168, q_89_169, q_89_171, q_89_172, q_89_173, q_89_176, q_89_177, q_89_178, q_89_179, q_89_182, q_89_184, q_89_185, q_89_186, q_89_189, q_89_190, q_89_191, q_89_194, q_89_195, q_89_e, va_rf_s, bz_0, bz_1, bz_ok, bb_ok, Nat.add_assoc, w_lt, w_add, w_sub, w_mul, w_div, em_def, w_eq, w_inT, ↓ilt_t, ↓ilt_f, ↓ieq_t, ↓ieq_f, ntT, w_b, w_ix, kx_v, kx_n, kl_n, kl_i, kl_r, kl_o, inA_i, inA_s, inA_b, inA_z, inA_l, inA_0, inA_4, inA_5, inA_6, inA_7, inA_8, inA_9, inA_10, al_0, al_1, al_2, al_4, al_5, al_98, bsP_2, bsP_3, wr_same, wr_wr, wr_ne, up_same, up_ne, Nat.reduceAdd, Int.reduceAdd, Int.reduceSub, Int.reduceMul, Int.reduceLT, Int.reduceLE, Int.reduceEq, Int.reduceNeg, Int.reduceToNat, Nat.reduceLT, Nat.reduceLeDiff, Nat.reduceEqDiff, ↓reduceIte, true_and, and_true, not_true_eq_false, not_false_eq_true, eq_self, or_true, true_or, or_false, false_or, if_true, if_false, Int.toNat_natCast, w_ite, Nat.add_zero, reduceCtorEq, ne_eq, g0, g1.1, s91, hw1]
                exact t80
          have hI := gi_w I
          have b9 := gi_bd I v 9
          by_cases hz : dep = 0
          · have := main I (fun _ _ => rfl) (fun _ _ => rfl) (by rw [← ha, if_pos hz, Int.add_zero])
            simp (disch := omega) only [q_89_0, q_89_1, q_89_2, q_89_3, q_89_6, q_89_7, q_89_8, q_89_9, q_89_12, q_89_13, q_89_16, q_89_17, q_89_19, q_89_22, q_89_23, q_89_26, q_89_27, q_89_28, q_89_29, q_89_30, q_89_31, q_89_34, q_89_35, q_89_36, q_89_39, q_89_40, q_89_41, q_89_44, q_89_45, q_89_46, q_89_50, q_89_51, q_89_52, q_89_55, q_89_58, q_89_59, q_89_60, q_89_61, q_89_64, q_89_67, q_89_68, q_89_71, q_89_72, q_89_75, q_89_78, q_89_79, q_89_80, q_89_81, q_89_82, q_89_85, q_89_87, q_89_89, q_89_90, q_89_93, q_89_94, q_89_97, q_89_98, q_89_99, q_89_100, q_89_101, q_89_102, q_89_105, q_89_106, q_89_107, q_89_108, q_89_111, q_89_112, q_89_114, q_89_115, q_89_116, q_89_119, q_89_120, q_89_123, q_89_124, q_89_125, q_89_126, q_89_127, q_89_130, q_89_131, q_89_132, q_89_133, q_89_134, q_89_137, q_89_138, q_89_139, q_89_140, q_89_141, q_89_144, q_89_146, q_89_147, q_89_148, q_89_150, q_89_151, q_89_154, q_89_157, q_89_158, q_89_159, q_89_160, q_89_163, q_89_164, q_89_165, q_89_168, q_89_169, q_89_171, q_89_172, q_89_173, q_89_176, q_89_177, q_89_178, q_89_179, q_89_182, q_89_184, q_89_185, q_89_186, q_89_189, q_89_190, q_89_191, q_89_194, q_89_195, q_89_e, va_rf_s, bz_0, bz_1, bz_ok, bb_ok, Nat.add_assoc, w_lt, w_add, w_sub, w_mul, w_div, em_def, w_eq, w_inT, ↓ilt_t, ↓ilt_f, ↓ieq_t, ↓ieq_f, ntT, w_b, w_ix, kx_v, kx_n, kl_n, kl_i, kl_r, kl_o, inA_i, inA_s, inA_b, inA_z, inA_l, inA_0, inA_4, inA_5, inA_6, inA_7, inA_8, inA_9, inA_10, al_0, al_1, al_2, al_4, al_5, al_98, bsP_2, bsP_3, wr_same, wr_wr, wr_ne, up_same, up_ne, Nat.reduceAdd, Int.reduceAdd, Int.reduceSub, Int.reduceMul, Int.reduceLT, Int.reduceLE, Int.reduceEq, Int.reduceNeg, Int.reduceToNat, Nat.reduceLT, Nat.reduceLeDiff, Nat.reduceEqDiff, ↓reduceIte, true_and, and_true, not_true_eq_false, not_false_eq_true, eq_self, or_true, true_or, or_false, false_or, if_true, if_false, Int.toNat_natCast, w_ite, Nat.add_zero, reduceCtorEq, ne_eq, g0, s90]
            exact this
          · have := main (wr I v (up (I v) 9 (w (gi I v 9 + 1)))) (fun a ha => wr_ne ha) (fun j hj => by rw [wr_same, up_ne hj]) (by rw [gi_wr, up_same, w_toInt (by omega) (by omega), ← ha, if_neg hz])
            simp (disch := omega) only [q_89_0, q_89_1, q_89_2, q_89_3, q_89_6, q_89_7, q_89_8, q_89_9, q_89_12, q_89_13, q_89_16, q_89_17, q_89_19, q_89_22, q_89_23, q_89_26, q_89_27, q_89_28, q_89_29, q_89_30, q_89_31, q_89_34, q_89_35, q_89_36, q_89_39, q_89_40, q_89_41, q_89_44, q_89_45, q_89_46, q_89_50, q_89_51, q_89_52, q_89_55, q_89_58, q_89_59, q_89_60, q_89_61, q_89_64, q_89_67, q_89_68, q_89_71, q_89_72, q_89_75, q_89_78, q_89_79, q_89_80, q_89_81, q_89_82, q_89_85, q_89_87, q_89_89, q_89_90, q_89_93, q_89_94, q_89_97, q_89_98, q_89_99, q_89_100, q_89_101, q_89_102, q_89_105, q_89_106, q_89_107, q_89_108, q_89_111, q_89_112, q_89_114, q_89_115, q_89_116, q_89_119, q_89_120, q_89_123, q_89_124, q_89_125, q_89_126, q_89_127, q_89_130, q_89_131, q_89_132, q_89_133, q_89_134, q_89_137, q_89_138, q_89_139, q_89_140, q_89_141, q_89_144, q_89_146, q_89_147, q_89_148, q_89_150, q_89_151, q_89_154, q_89_157, q_89_158, q_89_159, q_89_160, q_89_163, q_89_164, q_89_165, q_89_168, q_89_169, q_89_171, q_89_172, q_89_173, q_89_176, q_89_177, q_89_178, q_89_179, q_89_182, q_89_184, q_89_185, q_89_186, q_89_189, q_89_190, q_89_191, q_89_194, q_89_195, q_89_e, va_rf_s, bz_0, bz_1, bz_ok, bb_ok, Nat.add_assoc, w_lt, w_add, w_sub, w_mul, w_div, em_def, w_eq, w_inT, ↓ilt_t, ↓ilt_f, ↓ieq_t, ↓ieq_f, ntT, w_b, w_ix, kx_v, kx_n, kl_n, kl_i, kl_r, kl_o, inA_i, inA_s, inA_b, inA_z, inA_l, inA_0, inA_4, inA_5, inA_6, inA_7, inA_8, inA_9, inA_10, al_0, al_1, al_2, al_4, al_5, al_98, bsP_2, bsP_3, wr_same, wr_wr, wr_ne, up_same, up_ne, Nat.reduceAdd, Int.reduceAdd, Int.reduceSub, Int.reduceMul, Int.reduceLT, Int.reduceLE, Int.reduceEq, Int.reduceNeg, Int.reduceToNat, Nat.reduceLT, Nat.reduceLeDiff, Nat.reduceEqDiff, ↓reduceIte, true_and, and_true, not_true_eq_false, not_false_eq_true, eq_self, or_true, true_or, or_false, false_or, if_true, if_false, Int.toNat_natCast, w_ite, Nat.add_zero, reduceCtorEq, ne_eq, g0, s90]
            rw [gi_w I v 9]
            simp (disch := omega) only [va_rf_s, bz_0, bz_1, bz_ok, bb_ok, Nat.add_assoc, w_lt, w_add, w_sub, w_mul, w_div, em_def, w_eq, w_inT, ↓ilt_t, ↓ilt_f, ↓ieq_t, ↓ieq_f, ntT, w_b, w_ix, kx_v, kx_n, kl_n, kl_i, kl_r, kl_o, inA_i, inA_s, inA_b, inA_z, inA_l, inA_0, inA_4, inA_5, inA_6, inA_7, inA_8, inA_9, inA_10, al_0, al_1, al_2, al_4, al_5, al_98, bsP_2, bsP_3, wr_same, wr_wr, wr_ne, up_same, up_ne, Nat.reduceAdd, Int.reduceAdd, Int.reduceSub, Int.reduceMul, Int.reduceLT, Int.reduceLE, Int.reduceEq, Int.reduceNeg, Int.reduceToNat, Nat.reduceLT, Nat.reduceLeDiff, Nat.reduceEqDiff, ↓reduceIte, true_and, and_true, not_true_eq_false, not_false_eq_true, eq_self, or_true, true_or, or_false, false_or, if_true, if_false, Int.toNat_natCast, w_ite, Nat.add_zero, reduceCtorEq, ne_eq]
            exact this
end

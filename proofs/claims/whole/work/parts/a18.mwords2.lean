/-! the model's words, counted -/
section
variable {d : Nat} {Q : XO → Hp → Prop} {S : SH} {I : MI} {L : ML} {R : MR} {G : MG} {A : Hp}
variable {m : Nat} {s : St} {two : Bool}
theorem MS.wd {I' : MI} (h : MS S I R G m s) (hF : WdF I I' m) : MS S I' R G m s := by
  have hl := h.2.2.2.2.2.2.2.2
  exact h.sc (fun a a1 a2 => hF.1 a a1 (by omega)) (fun j j1 j2 => hF.2 j (by omega)) (hl.keep (hF.2 22 (by decide)) (hF.1 _ (by omega) (by omega)) (hF.1 _ (by omega) (by omega)) (hF.1 _ (by omega) (by omega)))
theorem sp_236 {l x : Int} (h : MS S I R G m s) (hf : few s) (hl : B32 l) (hx : B32 x) (hQ : MK S I L R G m Q true (rLx s l x 2 (fun rs => vWords rs s.2.1.1 x))) : XC (d + 70) 236 [.ref m, .int (w l), .int (w x)] (mk S I L R G) Q := by
  have hm := h.1.1
  obtain ⟨I1, e, h1, h0, hF⟩ := h.st (L := L)
  have b00 := fun {d : Nat} {Q : XO → Hp → Prop} {e r : Int32} => h1.b00 (d := d) (Q := Q) (L := L) h0 (e := e) (r := r)
  have b10 := fun {d : Nat} {Q : XO → Hp → Prop} => h1.b10 (d := d) (Q := Q) (L := L) h0 (e := 1) (Or.inl rfl)
  have b11 := fun {d : Nat} {Q : XO → Hp → Prop} => h1.b11 (d := d) (Q := Q) (L := L) h0 (e := 2) (Or.inr rfl)
  unfold rLx at hQ
  simp (disch := omega) only [q_236_0, q_236_1, q_236_2, q_236_6, q_236_7, q_236_10, q_236_13, q_236_14, q_236_17, q_236_18, q_236_19, q_236_20, q_236_23, q_236_26, q_236_27, q_236_28, q_236_29, q_236_30, q_236_33, q_236_36, q_236_37, q_236_40, q_236_41, q_236_42, q_236_43, q_236_46, q_236_49, q_236_50, q_236_51, q_236_52, q_236_53, q_236_56, q_236_57, q_236_60, q_236_61, q_236_62, q_236_63, q_236_65, q_236_66, q_236_68, q_236_69, q_236_71, q_236_72, q_236_76, q_236_77, q_236_80, q_236_83, q_236_85, q_236_88, q_236_89, q_236_90, q_236_93, q_236_95, q_236_96, q_236_97, q_236_98, q_236_99, q_236_102, q_236_104, q_236_105, q_236_108, q_236_111, q_236_112, q_236_115, q_236_118, q_236_120, q_236_123, q_236_125, q_236_126, q_236_127, q_236_130, q_236_131, q_236_133, q_236_134, q_236_136, q_236_139, q_236_140, q_236_143, q_236_144, q_236_145, q_236_146, q_236_148, q_236_150, q_236_153, q_236_156, q_236_158, q_236_160, q_236_161, q_236_164, q_236_165, q_236_168, q_236_170, q_236_171, q_236_172, q_236_174, q_236_177, q_236_180, q_236_181, q_236_184, q_236_185, q_236_188, q_236_189, q_236_190, q_236_193, q_236_195, q_236_198, q_236_200, q_236_e, va_rf_s, bz_0, bz_1, bz_ok, bb_ok, Nat.add_assoc, w_lt, w_add, w_sub, w_mul, w_div, em_def, w_eq, w_inT, ↓ilt_t, ↓ilt_f, ↓ieq_t, ↓ieq_f, ntT, w_b, w_ix, kx_v, kx_n, kl_n, kl_i, kl_r, kl_o, inA_i, inA_s, inA_b, inA_z, inA_l, inA_0, inA_4, inA_5, inA_6, inA_7, inA_8, inA_9, inA_10, al_0, al_1, al_2, al_4, al_5, al_98, bsP_2, bsP_3, wr_same, wr_wr, wr_ne, up_same, up_ne, Nat.reduceAdd, Int.reduceAdd, Int.reduceSub, Int.reduceMul, Int.reduceLT, Int.reduceLE, Int.reduceEq, Int.reduceNeg, Int.reduceToNat, Nat.reduceLT, Nat.reduceLeDiff, Nat.reduceEqDiff, ↓reduceIte, true_and, and_true, not_true_eq_false, not_false_eq_true, eq_self, or_true, true_or, or_false, false_or, if_true, if_false, Int.toNat_natCast, w_ite, Nat.add_zero, reduceCtorEq, ne_eq, hm]
  rw [e, q_236_5]
  by_cases cl : inL l
  · have s182 := fun {d : Nat} {Q : XO → Hp → Prop} {A : Hp} => l182 (d := d) (Q := Q) (A := A) hl cl
    rw [if_pos cl] at hQ
    by_cases cx : 0 ≤ x ∧ x ≤ 2
    · have s155 := fun {d : Nat} {Q : XO → Hp → Prop} {A : Hp} => l155 (d := d) (Q := Q) (A := A) hx (a := 0) (b := 2) (by decide) (by decide) cx
      rw [if_pos cx] at hQ
      simp (disch := omega) only [q_236_0, q_236_1, q_236_2, q_236_6, q_236_7, q_236_10, q_236_13, q_236_14, q_236_17, q_236_18, q_236_19, q_236_20, q_236_23, q_236_26, q_236_27, q_236_28, q_236_29, q_236_30, q_236_33, q_236_36, q_236_37, q_236_40, q_236_41, q_236_42, q_236_43, q_236_46, q_236_49, q_236_50, q_236_51, q_236_52, q_236_53, q_236_56, q_236_57, q_236_60, q_236_61, q_236_62, q_236_63, q_236_65, q_236_66, q_236_68, q_236_69, q_236_71, q_236_72, q_236_76, q_236_77, q_236_80, q_236_83, q_236_85, q_236_88, q_236_89, q_236_90, q_236_93, q_236_95, q_236_96, q_236_97, q_236_98, q_236_99, q_236_102, q_236_104, q_236_105, q_236_108, q_236_111, q_236_112, q_236_115, q_236_118, q_236_120, q_236_123, q_236_125, q_236_126, q_236_127, q_236_130, q_236_131, q_236_133, q_236_134, q_236_136, q_236_139, q_236_140, q_236_143, q_236_144, q_236_145, q_236_146, q_236_148, q_236_150, q_236_153, q_236_156, q_236_158, q_236_160, q_236_161, q_236_164, q_236_165, q_236_168, q_236_170, q_236_171, q_236_172, q_236_174, q_236_177, q_236_180, q_236_181, q_236_184, q_236_185, q_236_188, q_236_189, q_236_190, q_236_193, q_236_195, q_236_198, q_236_200, q_236_e, va_rf_s, bz_0, bz_1, bz_ok, bb_ok, Nat.add_assoc, w_lt, w_add, w_sub, w_mul, w_div, em_def, w_eq, w_inT, ↓ilt_t, ↓ilt_f, ↓ieq_t, ↓ieq_f, ntT, w_b, w_ix, kx_v, kx_n, kl_n, kl_i, kl_r, kl_o, inA_i, inA_s, inA_b, inA_z, inA_l, inA_0, inA_4, inA_5, inA_6, inA_7, inA_8, inA_9, inA_10, al_0, al_1, al_2, al_4, al_5, al_98, bsP_2, bsP_3, wr_same, wr_wr, wr_ne, up_same, up_ne, Nat.reduceAdd, Int.reduceAdd, Int.reduceSub, Int.reduceMul, Int.reduceLT, Int.reduceLE, Int.reduceEq, Int.reduceNeg, Int.reduceToNat, Nat.reduceLT, Nat.reduceLeDiff, Nat.reduceEqDiff, ↓reduceIte, true_and, and_true, not_true_eq_false, not_false_eq_true, eq_self, or_true, true_or, or_false, false_or, if_true, if_false, Int.toNat_natCast, w_ite, Nat.add_zero, reduceCtorEq, ne_eq, hm, s182, s155, b00]
      refine h1.lays cl (fun I2 hF2 h2 hM2 e22 hA2 => ?_)
      obtain ⟨e13, p1, p2⟩ := h2.2.2.2.2.2.1
      have hok := (h1.rs cl).ok
      simp (disch := omega) only [q_236_0, q_236_1, q_236_2, q_236_6, q_236_7, q_236_10, q_236_13, q_236_14, q_236_17, q_236_18, q_236_19, q_236_20, q_236_23, q_236_26, q_236_27, q_236_28, q_236_29, q_236_30, q_236_33, q_236_36, q_236_37, q_236_40, q_236_41, q_236_42, q_236_43, q_236_46, q_236_49, q_236_50, q_236_51, q_236_52, q_236_53, q_236_56, q_236_57, q_236_60, q_236_61, q_236_62, q_236_63, q_236_65, q_236_66, q_236_68, q_236_69, q_236_71, q_236_72, q_236_76, q_236_77, q_236_80, q_236_83, q_236_85, q_236_88, q_236_89, q_236_90, q_236_93, q_236_95, q_236_96, q_236_97, q_236_98, q_236_99, q_236_102, q_236_104, q_236_105, q_236_108, q_236_111, q_236_112, q_236_115, q_236_118, q_236_120, q_236_123, q_236_125, q_236_126, q_236_127, q_236_130, q_236_131, q_236_133, q_236_134, q_236_136, q_236_139, q_236_140, q_236_143, q_236_144, q_236_145, q_236_146, q_236_148, q_236_150, q_236_153, q_236_156, q_236_158, q_236_160, q_236_161, q_236_164, q_236_165, q_236_168, q_236_170, q_236_171, q_236_172, q_236_174, q_236_177, q_236_180, q_236_181, q_236_184, q_236_185, q_236_188, q_236_189, q_236_190, q_236_193, q_236_195, q_236_198, q_236_200, q_236_e, va_rf_s, bz_0, bz_1, bz_ok, bb_ok, Nat.add_assoc, w_lt, w_add, w_sub, w_mul, w_div, em_def, w_eq, w_inT, ↓ilt_t, ↓ilt_f, ↓ieq_t, ↓ieq_f, ntT, w_b, w_ix, kx_v, kx_n, kl_n, kl_i, kl_r, kl_o, inA_i, inA_s, inA_b, inA_z, inA_l, inA_0, inA_4, inA_5, inA_6, inA_7, inA_8, inA_9, inA_10, al_0, al_1, al_2, al_4, al_5, al_98, bsP_2, bsP_3, wr_same, wr_wr, wr_ne, up_same, up_ne, Nat.reduceAdd, Int.reduceAdd, Int.reduceSub, Int.reduceMul, Int.reduceLT, Int.reduceLE, Int.reduceEq, Int.reduceNeg, Int.reduceToNat, Nat.reduceLT, Nat.reduceLeDiff, Nat.reduceEqDiff, ↓reduceIte, true_and, and_true, not_true_eq_false, not_false_eq_true, eq_self, or_true, true_or, or_false, false_or, if_true, if_false, Int.toNat_natCast, w_ite, Nat.add_zero, reduceCtorEq, ne_eq, hm]
      refine sp_235 h.1 hok hA2 e13 p2 (fun I3 P ys hF3 e49 hV hp hmem hlen gT => ?_)
      have hQ' := hQ.ans (h2.wd hF3) (by rw [hF3.2 0 (by decide), hF2.2 0 (by omega)]; exact h0) ((hF.trans hM2).trans (fun a ha => ⟨hF3.1 a (by omega) (by omega), rfl⟩))
      unfold vWords at hQ'
      dsimp only at hQ'
      obtain ⟨-, w1, w2, w3, w4⟩ := h.1.2.2.2.2.2.2.2.2.2.2
      have hwb := wl_b hok (s.2.1.1 + 1)
      have hwo := wl_ok hok (s.2.1.1 + 1)
      have hres : ∀ u mm ll, WRes (wl_ (rlz s l) (s.2.1.1 + 1)) u mm ll → wres (wl_ (rlz s l) (s.2.1.1 + 1)) = (u, mm, ll) := fun u mm ll h => wres_eq hwo h
      generalize wl_ (rlz s l) (s.2.1.1 + 1) = V at e49 hV hp hmem hlen hwb hwo hres hQ'
      have hNb : V.length ≤ 50050 := by omega
      have hVm : ∀ i, i < V.length → V.getD i [] ∈ V := fun i hi => by rw [List.getD_eq_getElem?_getD, List.getElem?_eq_getElem hi]; exact List.getElem_mem hi
      have hbk : ∀ i, i < V.length → bOk (V.getD i []) := fun i hi b hb => Or.inr ((hwo _ (hVm i hi)).2 b hb)
      -- the words in their order
      obtain ⟨U, hU⟩ : ∃ U, U = ys.map (fun i => V.getD i []) := ⟨_, rfl⟩
      have hUl : U.length = V.length := by rw [hU, List.length_map, hlen]
      have hUg : ∀ i, i < ys.length → U.getD i [] = V.getD (ys.getD i 0) [] := fun i hi => by
        rw [hU, List.getD_eq_getElem?_getD, List.getElem?_map, List.getElem?_eq_getElem hi, List.getD_eq_getElem?_getD (l := ys), List.getElem?_eq_getElem hi]; rfl
      have hyd : ∀ i, i < ys.length → I3 (m + 6677) i = w (ys.getD i 0 : Nat) ∧ ys.getD i 0 < V.length := fun i hi => by
        have e := gT i (by rw [zl_len]; exact hi)
        rw [Nat.zero_add, zl_get] at e
        refine ⟨e, (hmem _).mp ?_⟩
        rw [List.getD_eq_getElem?_getD, List.getElem?_eq_getElem hi]; exact List.getElem_mem hi
      have hUp : U.Perm V := by
        have hnd : ys.Nodup := by
          refine hp.imp ?_
          intro a b hab e
          subst e
          exact klt.irr hab
        have h1 : ys.Perm (List.range V.length) := (List.perm_ext_iff_of_nodup hnd List.nodup_range).mpr (fun z => by rw [hmem, List.mem_range])
        have h2 := h1.map (fun i => V.getD i [])
        have h3 : (List.range V.length).map (fun i => V.getD i []) = V := by
          apply List.ext_getElem (by rw [List.length_map, List.length_range])
          intro i a b
          rw [List.getElem_map, List.getElem_range, List.getD_eq_getElem?_getD, List.getElem?_eq_getElem b]; rfl
        rw [h3, ← hU] at h2
        exact h2
      have hUs : U.Pairwise (fun a b => lexc a b ≤ 0) := by
        rw [hU, List.pairwise_map]
        refine hp.imp ?_
        intro a b hab
        rcases hab with h | h
        · exact Int.le_of_lt h
        · exact Int.le_of_eq h.1
      have hUw : ∀ x ∈ U, x ≠ [] ∧ ∀ b ∈ x, 97 ≤ b ∧ b ≤ 122 := fun x hx => hwo x (hUp.mem_iff.mp hx)
      -- at a place of the order
      have hst : ∀ i, i < U.length → (∀ x ∈ U.take i, lexc x (U.getD i []) ≤ 0) ∧ U.take (i + 1) = U.take i ++ [U.getD i []] := fun i hi => by
        have e : U.take (i + 1) = U.take i ++ [U.getD i []] := by
          rw [List.take_add_one, List.getD_eq_getElem?_getD, List.getElem?_eq_getElem hi]; rfl
        refine ⟨?_, e⟩
        have h := hUs.sublist (List.take_sublist (i + 1) U)
        rw [e, List.pairwise_append] at h
        exact fun x hx => h.2.2 x hx _ (List.mem_singleton.mpr rfl)
      have fin : ∀ (u mm ll : Nat), WRes U u mm ll → ∀ v : Int, v = (if x = 0 then (u : Int) else if x = 1 then (mm : Int) else ll) → Q (.inl (some (.int (w v)))) (mk S I3 L R G) := fun u mm ll h v hv => by
        rw [hres u mm ll (WRes_perm hUp h)] at hQ'
        rw [hv]; exact hQ'
      have lp : ∀ (j i : Nat) (u r mm ll : Nat) (o8 : Option Value), i + j = U.length → WRes (U.take i) u mm ll → u ≤ i → mm ≤ i → r ≤ i → ll ≤ 100 → (0 < i → r = (U.take i).count (U.getD (i - 1) [])) → XX (d + 70) 236 74 [some (.ref m), some (.int (w l)), some (.int (w x)), some (.int (w u)), some (.int (w r)), some (.int (w mm)), some (.int (w ll)), some (.int (w i)), o8] [] (mk S I3 L R G) Q := by
        intro j
        induction j with
        | zero =>
          intro i u r mm ll o8 hi hW b1 b2 b3 b4 hr
          have : i = U.length := by omega
          subst this
          rw [List.take_length] at hW
          have fin' := fin u mm ll hW
          rw [q_236_74, hUl]
          have hcs : x = 0 ∨ x = 1 ∨ x = 2 := by omega
          rcases hcs with rfl | rfl | rfl <;> (simp (disch := omega) only [q_236_0, q_236_1, q_236_2, q_236_6, q_236_7, q_236_10, q_236_13, q_236_14, q_236_17, q_236_18, q_236_19, q_236_20, q_236_23, q_236_26, q_236_27, q_236_28, q_236_29, q_236_30, q_236_33, q_236_36, q_236_37, q_236_40, q_236_41, q_236_42, q_236_43, q_236_46, q_236_49, q_236_50, q_236_51, q_236_52, q_236_53, q_236_56, q_236_57, q_236_60, q_236_61, q_236_62, q_236_63, q_236_65, q_236_66, q_236_68, q_236_69, q_236_71, q_236_72, q_236_76, q_236_77, q_236_80, q_236_83, q_236_85, q_236_88, q_236_89, q_236_90, q_236_93, q_236_95, q_236_96, q_236_97, q_236_98, q_236_99, q_236_102, q_236_104, q_236_105, q_236_108, q_236_111, q_236_112, q_236_115, q_236_118, q_236_120, q_236_123, q_236_125, q_236_126, q_236_127, q_236_130, q_236_131, q_236_133, q_236_134, q_236_136, q_236_139, q_236_140, q_236_143, q_236_144, q_236_145, q_236_146, q_236_148, q_236_150, q_236_153, q_236_156, q_236_158, q_236_160, q_236_161, q_236_164, q_236_165, q_236_168, q_236_170, q_236_171, q_236_172, q_236_174, q_236_177, q_236_180, q_236_181, q_236_184, q_236_185, q_236_188, q_236_189, q_236_190, q_236_193, q_236_195, q_236_198, q_236_200, q_236_e, va_rf_s, bz_0, bz_1, bz_ok, bb_ok, Nat.add_assoc, w_lt, w_add, w_sub, w_mul, w_div, em_def, w_eq, w_inT, ↓ilt_t, ↓ilt_f, ↓ieq_t, ↓ieq_f, ntT, w_b, w_ix, kx_v, kx_n, kl_n, kl_i, kl_r, kl_o, inA_i, inA_s, inA_b, inA_z, inA_l, inA_0, inA_4, inA_5, inA_6, inA_7, inA_8, inA_9, inA_10, al_0, al_1, al_2, al_4, al_5, al_98, bsP_2, bsP_3, wr_same, wr_wr, wr_ne, up_same, up_ne, Nat.reduceAdd, Int.reduceAdd, Int.reduceSub, Int.reduceMul, Int.reduceLT, Int.reduceLE, Int.reduceEq, Int.reduceNeg, Int.reduceToNat, Nat.reduceLT, Nat.reduceLeDiff, Nat.reduceEqDiff, ↓reduceIte, true_and, and_true, not_true_eq_false, not_false_eq_true, eq_self, or_true, true_or, or_false, false_or, if_true, if_false, Int.toNat_natCast, w_ite, Nat.add_zero, reduceCtorEq, ne_eq, hm, e49]; exact fin' _ rfl)
        | succ j ih =>
          intro i u r mm ll o8 hi hW b1 b2 b3 b4 hr
          have hil : i < U.length := by omega
          obtain ⟨y1, y2⟩ := hyd i (by omega)
          obtain ⟨a1, a2, a3, a4⟩ := hV _ y2
          obtain ⟨s1, s2⟩ := hst i hil
          have hz := hUg i (by omega)
          rw [← hz] at a2 a3 a4
          have hzl : (U.getD i []).length ≤ 100 := by rw [hz]; exact hwb.2 _ (hVm _ y2)
          have hstep := WRes_step s1 hW
          rw [← s2] at hstep
          have hcl : (U.take i).count (U.getD i []) ≤ i := by
            have := List.count_le_length (a := U.getD i []) (l := U.take i)
            rw [List.length_take] at this; omega
          have hc1 : (U.take (i + 1)).count (U.getD i []) = (U.take i).count (U.getD i []) + 1 := by
            rw [s2, List.count_append, List.count_singleton_self]
          have ih' := fun u' r' mm' ll' o8 => ih (i + 1) u' r' mm' ll' o8 (by omega)
          simp only [Nat.add_sub_cancel, hc1] at ih'
          simp only [Int.natCast_add, Int.natCast_one] at ih'
          -- behind the look back
          have go : ∀ ag : Bool, (ag = true ↔ U.getD i [] ∈ U.take i) → XX (d + 70) 236 116 [some (.ref m), some (.int (w l)), some (.int (w x)), some (.int (w u)), some (.int (w r)), some (.int (w mm)), some (.int (w ll)), some (.int (w i)), o8] [.int (bz ag)] (mk S I3 L R G) Q := by
            intro ag hag
            rw [q_236_116]
            cases ag with
            | true =>
              have hin := hag.mp rfl
              rw [if_pos hin] at hstep
              have hi0 : 0 < i := by
                rcases Nat.eq_zero_or_pos i with h | h
                · rw [h] at hin; exact nomatch hin
                · exact h
              -- the last one is it
              have hlast : U.getD (i - 1) [] = U.getD i [] := by
                have t1 : U.take i = U.take (i - 1) ++ [U.getD (i - 1) []] := by
                  have := (hst (i - 1) (by omega)).2
                  rw [show i - 1 + 1 = i by omega] at this
                  exact this
                have h1 := s1 (U.getD (i - 1) []) (by rw [t1]; exact List.mem_append_right _ (List.mem_singleton.mpr rfl))
                have h2 : lexc (U.getD i []) (U.getD (i - 1) []) ≤ 0 := by
                  rw [t1] at hin
                  rcases List.mem_append.mp hin with hin | hin
                  · exact (hst (i - 1) (by omega)).1 _ hin
                  · rw [List.mem_singleton.mp hin]
                    have := lexc_neg (U.getD (i - 1) []) (U.getD (i - 1) [])
                    omega
                have h3 := lexc_neg (U.getD i []) (U.getD (i - 1) [])
                have hw1 := hUw (U.getD (i - 1) []) (by rw [List.getD_eq_getElem?_getD, List.getElem?_eq_getElem (show i - 1 < U.length by omega)]; exact List.getElem_mem _)
                have hw2 := hUw (U.getD i []) (by rw [List.getD_eq_getElem?_getD, List.getElem?_eq_getElem hil]; exact List.getElem_mem _)
                exact (lexc_small (fun b hb => Or.inr (hw1.2 b hb)) (fun b hb => Or.inr (hw2.2 b hb))).mp (by omega)
              have er : r = (U.take i).count (U.getD i []) := by rw [hr hi0, hlast]
              rw [← er] at hstep ih' hcl
              by_cases c : mm < r + 1
              · rw [if_pos c, if_pos c] at hstep
                simp (disch := omega) only [q_236_0, q_236_1, q_236_2, q_236_6, q_236_7, q_236_10, q_236_13, q_236_14, q_236_17, q_236_18, q_236_19, q_236_20, q_236_23, q_236_26, q_236_27, q_236_28, q_236_29, q_236_30, q_236_33, q_236_36, q_236_37, q_236_40, q_236_41, q_236_42, q_236_43, q_236_46, q_236_49, q_236_50, q_236_51, q_236_52, q_236_53, q_236_56, q_236_57, q_236_60, q_236_61, q_236_62, q_236_63, q_236_65, q_236_66, q_236_68, q_236_69, q_236_71, q_236_72, q_236_76, q_236_77, q_236_80, q_236_83, q_236_85, q_236_88, q_236_89, q_236_90, q_236_93, q_236_95, q_236_96, q_236_97, q_236_98, q_236_99, q_236_102, q_236_104, q_236_105, q_236_108, q_236_111, q_236_112, q_236_115, q_236_118, q_236_120, q_236_123, q_236_125, q_236_126, q_236_127, q_236_130, q_236_131, q_236_133, q_236_134, q_236_136, q_236_139, q_236_140, q_236_143, q_236_144, q_236_145, q_236_146, q_236_148, q_236_150, q_236_153, q_236_156, q_236_158, q_236_160, q_236_161, q_236_164, q_236_165, q_236_168, q_236_170, q_236_171, q_236_172, q_236_174, q_236_177, q_236_180, q_236_181, q_236_184, q_236_185, q_236_188, q_236_189, q_236_190, q_236_193, q_236_195, q_236_198, q_236_200, q_236_e, va_rf_s, bz_0, bz_1, bz_ok, bb_ok, Nat.add_assoc, w_lt, w_add, w_sub, w_mul, w_div, em_def, w_eq, w_inT, ↓ilt_t, ↓ilt_f, ↓ieq_t, ↓ieq_f, ntT, w_b, w_ix, kx_v, kx_n, kl_n, kl_i, kl_r, kl_o, inA_i, inA_s, inA_b, inA_z, inA_l, inA_0, inA_4, inA_5, inA_6, inA_7, inA_8, inA_9, inA_10, al_0, al_1, al_2, al_4, al_5, al_98, bsP_2, bsP_3, wr_same, wr_wr, wr_ne, up_same, up_ne, Nat.reduceAdd, Int.reduceAdd, Int.reduceSub, Int.reduceMul, Int.reduceLT, Int.reduceLE, Int.reduceEq, Int.reduceNeg, Int.reduceToNat, Nat.reduceLT, Nat.reduceLeDiff, Nat.reduceEqDiff, ↓reduceIte, true_and, and_true, not_true_eq_false, not_false_eq_true, eq_self, or_true, true_or, or_false, false_or, if_true, if_false, Int.toNat_natCast, w_ite, Nat.add_zero, reduceCtorEq, ne_eq, hm, bz_t, w2, w4, y1, a2, Int.add_zero]
                exact ih' u (r + 1) (r + 1) _ _ hstep (by omega) (by omega) (by omega) hzl (fun _ => rfl)
              · rw [if_neg c, if_neg c] at hstep
                simp (disch := omega) only [q_236_0, q_236_1, q_236_2, q_236_6, q_236_7, q_236_10, q_236_13, q_236_14, q_236_17, q_236_18, q_236_19, q_236_20, q_236_23, q_236_26, q_236_27, q_236_28, q_236_29, q_236_30, q_236_33, q_236_36, q_236_37, q_236_40, q_236_41, q_236_42, q_236_43, q_236_46, q_236_49, q_236_50, q_236_51, q_236_52, q_236_53, q_236_56, q_236_57, q_236_60, q_236_61, q_236_62, q_236_63, q_236_65, q_236_66, q_236_68, q_236_69, q_236_71, q_236_72, q_236_76, q_236_77, q_236_80, q_236_83, q_236_85, q_236_88, q_236_89, q_236_90, q_236_93, q_236_95, q_236_96, q_236_97, q_236_98, q_236_99, q_236_102, q_236_104, q_236_105, q_236_108, q_236_111, q_236_112, q_236_115, q_236_118, q_236_120, q_236_123, q_236_125, q_236_126, q_236_127, q_236_130, q_236_131, q_236_133, q_236_134, q_236_136, q_236_139, q_236_140, q_236_143, q_236_144, q_236_145, q_236_146, q_236_148, q_236_150, q_236_153, q_236_156, q_236_158, q_236_160, q_236_161, q_236_164, q_236_165, q_236_168, q_236_170, q_236_171, q_236_172, q_236_174, q_236_177, q_236_180, q_236_181, q_236_184, q_236_185, q_236_188, q_236_189, q_236_190, q_236_193, q_236_195, q_236_198, q_236_200, q_236_e, va_rf_s, bz_0, bz_1, bz_ok, bb_ok, Nat.add_assoc, w_lt, w_add, w_sub, w_mul, w_div, em_def, w_eq, w_inT, ↓ilt_t, ↓ilt_f, ↓ieq_t, ↓ieq_f, ntT, w_b, w_ix, kx_v, kx_n, kl_n, kl_i, kl_r, kl_o, inA_i, inA_s, inA_b, inA_z, inA_l, inA_0, inA_4, inA_5, inA_6, inA_7, inA_8, inA_9, inA_10, al_0, al_1, al_2, al_4, al_5, al_98, bsP_2, bsP_3, wr_same, wr_wr, wr_ne, up_same, up_ne, Nat.reduceAdd, Int.reduceAdd, Int.reduceSub, Int.reduceMul, Int.reduceLT, Int.reduceLE, Int.reduceEq, Int.reduceNeg, Int.reduceToNat, Nat.reduceLT, Nat.reduceLeDiff, Nat.reduceEqDiff, ↓reduceIte, true_and, and_true, not_true_eq_false, not_false_eq_true, eq_self, or_true, true_or, or_false, false_or, if_true, if_false, Int.toNat_natCast, w_ite, Nat.add_zero, reduceCtorEq, ne_eq, hm, bz_t, Int.add_zero]
                exact ih' u (r + 1) mm ll _ hstep (by omega) (by omega) (by omega) b4 (fun _ => rfl)
            | false =>
              have hin : ¬ U.getD i [] ∈ U.take i := fun h => by have := hag.mpr h; cases this
              have ec : (U.take i).count (U.getD i []) = 0 := List.count_eq_zero.mpr hin
              rw [if_neg hin, ec] at hstep
              rw [ec] at ih'
              by_cases c : mm < 0 + 1
              · rw [if_pos c, if_pos c] at hstep
                simp (disch := omega) only [q_236_0, q_236_1, q_236_2, q_236_6, q_236_7, q_236_10, q_236_13, q_236_14, q_236_17, q_236_18, q_236_19, q_236_20, q_236_23, q_236_26, q_236_27, q_236_28, q_236_29, q_236_30, q_236_33, q_236_36, q_236_37, q_236_40, q_236_41, q_236_42, q_236_43, q_236_46, q_236_49, q_236_50, q_236_51, q_236_52, q_236_53, q_236_56, q_236_57, q_236_60, q_236_61, q_236_62, q_236_63, q_236_65, q_236_66, q_236_68, q_236_69, q_236_71, q_236_72, q_236_76, q_236_77, q_236_80, q_236_83, q_236_85, q_236_88, q_236_89, q_236_90, q_236_93, q_236_95, q_236_96, q_236_97, q_236_98, q_236_99, q_236_102, q_236_104, q_236_105, q_236_108, q_236_111, q_236_112, q_236_115, q_236_118, q_236_120, q_236_123, q_236_125, q_236_126, q_236_127, q_236_130, q_236_131, q_236_133, q_236_134, q_236_136, q_236_139, q_236_140, q_236_143, q_236_144, q_236_145, q_236_146, q_236_148, q_236_150, q_236_153, q_236_156, q_236_158, q_236_160, q_236_161, q_236_164, q_236_165, q_236_168, q_236_170, q_236_171, q_236_172, q_236_174, q_236_177, q_236_180, q_236_181, q_236_184, q_236_185, q_236_188, q_236_189, q_236_190, q_236_193, q_236_195, q_236_198, q_236_200, q_236_e, va_rf_s, bz_0, bz_1, bz_ok, bb_ok, Nat.add_assoc, w_lt, w_add, w_sub, w_mul, w_div, em_def, w_eq, w_inT, ↓ilt_t, ↓ilt_f, ↓ieq_t, ↓ieq_f, ntT, w_b, w_ix, kx_v, kx_n, kl_n, kl_i, kl_r, kl_o, inA_i, inA_s, inA_b, inA_z, inA_l, inA_0, inA_4, inA_5, inA_6, inA_7, inA_8, inA_9, inA_10, al_0, al_1, al_2, al_4, al_5, al_98, bsP_2, bsP_3, wr_same, wr_wr, wr_ne, up_same, up_ne, Nat.reduceAdd, Int.reduceAdd, Int.reduceSub, Int.reduceMul, Int.reduceLT, Int.reduceLE, Int.reduceEq, Int.reduceNeg, Int.reduceToNat, Nat.reduceLT, Nat.reduceLeDiff, Nat.reduceEqDiff, ↓reduceIte, true_and, and_true, not_true_eq_false, not_false_eq_true, eq_self, or_true, true_or, or_false, false_or, if_true, if_false, Int.toNat_natCast, w_ite, Nat.add_zero, reduceCtorEq, ne_eq, hm, bz_f, w2, w4, y1, a2]
                exact ih' (u + 1) (0 + 1) (0 + 1) _ _ hstep (by omega) (by omega) (by omega) hzl (fun _ => rfl)
              · rw [if_neg c, if_neg c] at hstep
                simp (disch := omega) only [q_236_0, q_236_1, q_236_2, q_236_6, q_236_7, q_236_10, q_236_13, q_236_14, q_236_17, q_236_18, q_236_19, q_236_20, q_236_23, q_236_26, q_236_27, q_236_28, q_236_29, q_236_30, q_236_33, q_236_36, q_236_37, q_236_40, q_236_41, q_236_42, q_236_43, q_236_46, q_236_49, q_236_50, q_236_51, q_236_52, q_236_53, q_236_56, q_236_57, q_236_60, q_236_61, q_236_62, q_236_63, q_236_65, q_236_66, q_236_68, q_236_69, q_236_71, q_236_72, q_236_76, q_236_77, q_236_80, q_236_83, q_236_85, q_236_88, q_236_89, q_236_90, q_236_93, q_236_95, q_236_96, q_236_97, q_236_98, q_236_99, q_236_102, q_236_104, q_236_105, q_236_108, q_236_111, q_236_112, q_236_115, q_236_118, q_236_120, q_236_123, q_236_125, q_236_126, q_236_127, q_236_130, q_236_131, q_236_133, q_236_134, q_236_136, q_236_139, q_236_140, q_236_143, q_236_144, q_236_145, q_236_146, q_236_148, q_236_150, q_236_153, q_236_156, q_236_158, q_236_160, q_236_161, q_236_164, q_236_165, q_236_168, q_236_170, q_236_171, q_236_172, q_236_174, q_236_177, q_236_180, q_236_181, q_236_184, q_236_185, q_236_188, q_236_189, q_236_190, q_236_193, q_236_195, q_236_198, q_236_200, q_236_e, va_rf_s, bz_0, bz_1, bz_ok, bb_ok, Nat.add_assoc, w_lt, w_add, w_sub, w_mul, w_div, em_def, w_eq, w_inT, ↓ilt_t, ↓ilt_f, ↓ieq_t, ↓ieq_f, ntT, w_b, w_ix, kx_v, kx_n, kl_n, kl_i, kl_r, kl_o, inA_i, inA_s, inA_b, inA_z, inA_l, inA_0, inA_4, inA_5, inA_6, inA_7, inA_8, inA_9, inA_10, al_0, al_1, al_2, al_4, al_5, al_98, bsP_2, bsP_3, wr_same, wr_wr, wr_ne, up_same, up_ne, Nat.reduceAdd, Int.reduceAdd, Int.reduceSub, Int.reduceMul, Int.reduceLT, Int.reduceLE, Int.reduceEq, Int.reduceNeg, Int.reduceToNat, Nat.reduceLT, Nat.reduceLeDiff, Nat.reduceEqDiff, ↓reduceIte, true_and, and_true, not_true_eq_false, not_false_eq_true, eq_self, or_true, true_or, or_false, false_or, if_true, if_false, Int.toNat_natCast, w_ite, Nat.add_zero, reduceCtorEq, ne_eq, hm, bz_f]
                exact ih' (u + 1) (0 + 1) mm ll _ hstep (by omega) (by omega) (by omega) b4 (fun _ => rfl)
          rw [q_236_74]
          by_cases c0 : 0 < i
          · obtain ⟨z1, z2⟩ := hyd (i - 1) (by omega)
            obtain ⟨f1, f2, f3, f4⟩ := hV _ z2
            have s233 := fun {d : Nat} {Q : XO → Hp → Prop} => sp_233 (d := d) (Q := Q) (L := L) (G := G) h.1 (show ys.getD (i - 1) 0 < 50052 by omega) (show ys.getD i 0 < 50052 by omega) f1 f2 f3 f4 a1 a2 a3 a4 (hbk _ z2) (by rw [hz]; exact hbk _ y2)
            rw [← hUg (i - 1) (by omega)] at s233
            have e1 : ((i : Int) - 1).toNat = i - 1 := by omega
            have hw1 := hUw (U.getD (i - 1) []) (by rw [List.getD_eq_getElem?_getD, List.getElem?_eq_getElem (show i - 1 < U.length by omega)]; exact List.getElem_mem _)
            have hw2 := hUw (U.getD i []) (by rw [List.getD_eq_getElem?_getD, List.getElem?_eq_getElem hil]; exact List.getElem_mem _)
            have hsm := lexc_small (s := U.getD (i - 1) []) (t := U.getD i []) (fun b hb => Or.inr (hw1.2 b hb)) (fun b hb => Or.inr (hw2.2 b hb))
            have hlb := lexc_bd (U.getD (i - 1) []) (U.getD i [])
            have hl1 : (U.getD (i - 1) []).length ≤ 100 := by rw [hUg (i - 1) (by omega)]; exact hwb.2 _ (hVm _ z2)
            have t1 : U.take i = U.take (i - 1) ++ [U.getD (i - 1) []] := by
              have := (hst (i - 1) (by omega)).2
              rw [show i - 1 + 1 = i by omega] at this
              exact this
            by_cases ce : lexc (U.getD (i - 1) []) (U.getD i []) = 0
            · have hin : U.getD i [] ∈ U.take i := by rw [t1, hsm.mp ce]; exact List.mem_append_right _ (List.mem_singleton.mpr rfl)
              have go' := go true ⟨fun _ => hin, fun _ => rfl⟩
              rw [ce] at s233
              rw [← hUl] at e49
              simp (disch := omega) only [q_236_0, q_236_1, q_236_2, q_236_6, q_236_7, q_236_10, q_236_13, q_236_14, q_236_17, q_236_18, q_236_19, q_236_20, q_236_23, q_236_26, q_236_27, q_236_28, q_236_29, q_236_30, q_236_33, q_236_36, q_236_37, q_236_40, q_236_41, q_236_42, q_236_43, q_236_46, q_236_49, q_236_50, q_236_51, q_236_52, q_236_53, q_236_56, q_236_57, q_236_60, q_236_61, q_236_62, q_236_63, q_236_65, q_236_66, q_236_68, q_236_69, q_236_71, q_236_72, q_236_76, q_236_77, q_236_80, q_236_83, q_236_85, q_236_88, q_236_89, q_236_90, q_236_93, q_236_95, q_236_96, q_236_97, q_236_98, q_236_99, q_236_102, q_236_104, q_236_105, q_236_108, q_236_111, q_236_112, q_236_115, q_236_118, q_236_120, q_236_123, q_236_125, q_236_126, q_236_127, q_236_130, q_236_131, q_236_133, q_236_134, q_236_136, q_236_139, q_236_140, q_236_143, q_236_144, q_236_145, q_236_146, q_236_148, q_236_150, q_236_153, q_236_156, q_236_158, q_236_160, q_236_161, q_236_164, q_236_165, q_236_168, q_236_170, q_236_171, q_236_172, q_236_174, q_236_177, q_236_180, q_236_181, q_236_184, q_236_185, q_236_188, q_236_189, q_236_190, q_236_193, q_236_195, q_236_198, q_236_200, q_236_e, va_rf_s, bz_0, bz_1, bz_ok, bb_ok, Nat.add_assoc, w_lt, w_add, w_sub, w_mul, w_div, em_def, w_eq, w_inT, ↓ilt_t, ↓ilt_f, ↓ieq_t, ↓ieq_f, ntT, w_b, w_ix, kx_v, kx_n, kl_n, kl_i, kl_r, kl_o, inA_i, inA_s, inA_b, inA_z, inA_l, inA_0, inA_4, inA_5, inA_6, inA_7, inA_8, inA_9, inA_10, al_0, al_1, al_2, al_4, al_5, al_98, bsP_2, bsP_3, wr_same, wr_wr, wr_ne, up_same, up_ne, Nat.reduceAdd, Int.reduceAdd, Int.reduceSub, Int.reduceMul, Int.reduceLT, Int.reduceLE, Int.reduceEq, Int.reduceNeg, Int.reduceToNat, Nat.reduceLT, Nat.reduceLeDiff, Nat.reduceEqDiff, ↓reduceIte, true_and, and_true, not_true_eq_false, not_false_eq_true, eq_self, or_true, true_or, or_false, false_or, if_true, if_false, Int.toNat_natCast, w_ite, Nat.add_zero, reduceCtorEq, ne_eq, hm, e49, w4, e1, y1, z1, s233]
              exact go'
            · have hin : ¬ U.getD i [] ∈ U.take i := fun hin => by
                have h1 := s1 (U.getD (i - 1) []) (by rw [t1]; exact List.mem_append_right _ (List.mem_singleton.mpr rfl))
                have h2 : lexc (U.getD i []) (U.getD (i - 1) []) ≤ 0 := by
                  rw [t1] at hin
                  rcases List.mem_append.mp hin with hin | hin
                  · exact (hst (i - 1) (by omega)).1 _ hin
                  · rw [List.mem_singleton.mp hin]
                    have := lexc_neg (U.getD (i - 1) []) (U.getD (i - 1) [])
                    omega
                have h3 := lexc_neg (U.getD i []) (U.getD (i - 1) [])
                exact ce (by omega)
              have go' := go false ⟨fun h => (by cases h), fun h => absurd h hin⟩
              rw [← hUl] at e49
              simp (disch := omega) only [q_236_0, q_236_1, q_236_2, q_236_6, q_236_7, q_236_10, q_236_13, q_236_14, q_236_17, q_236_18, q_236_19, q_236_20, q_236_23, q_236_26, q_236_27, q_236_28, q_236_29, q_236_30, q_236_33, q_236_36, q_236_37, q_236_40, q_236_41, q_236_42, q_236_43, q_236_46, q_236_49, q_236_50, q_236_51, q_236_52, q_236_53, q_236_56, q_236_57, q_236_60, q_236_61, q_236_62, q_236_63, q_236_65, q_236_66, q_236_68, q_236_69, q_236_71, q_236_72, q_236_76, q_236_77, q_236_80, q_236_83, q_236_85, q_236_88, q_236_89, q_236_90, q_236_93, q_236_95, q_236_96, q_236_97, q_236_98, q_236_99, q_236_102, q_236_104, q_236_105, q_236_108, q_236_111, q_236_112, q_236_115, q_236_118, q_236_120, q_236_123, q_236_125, q_236_126, q_236_127, q_236_130, q_236_131, q_236_133, q_236_134, q_236_136, q_236_139, q_236_140, q_236_143, q_236_144, q_236_145, q_236_146, q_236_148, q_236_150, q_236_153, q_236_156, q_236_158, q_236_160, q_236_161, q_236_164, q_236_165, q_236_168, q_236_170, q_236_171, q_236_172, q_236_174, q_236_177, q_236_180, q_236_181, q_236_184, q_236_185, q_236_188, q_236_189, q_236_190, q_236_193, q_236_195, q_236_198, q_236_200, q_236_e, va_rf_s, bz_0, bz_1, bz_ok, bb_ok, Nat.add_assoc, w_lt, w_add, w_sub, w_mul, w_div, em_def, w_eq, w_inT, ↓ilt_t, ↓ilt_f, ↓ieq_t, ↓ieq_f, ntT, w_b, w_ix, kx_v, kx_n, kl_n, kl_i, kl_r, kl_o, inA_i, inA_s, inA_b, inA_z, inA_l, inA_0, inA_4, inA_5, inA_6, inA_7, inA_8, inA_9, inA_10, al_0, al_1, al_2, al_4, al_5, al_98, bsP_2, bsP_3, wr_same, wr_wr, wr_ne, up_same, up_ne, Nat.reduceAdd, Int.reduceAdd, Int.reduceSub, Int.reduceMul, Int.reduceLT, Int.reduceLE, Int.reduceEq, Int.reduceNeg, Int.reduceToNat, Nat.reduceLT, Nat.reduceLeDiff, Nat.reduceEqDiff, ↓reduceIte, true_and, and_true, not_true_eq_false, not_false_eq_true, eq_self, or_true, true_or, or_false, false_or, if_true, if_false, Int.toNat_natCast, w_ite, Nat.add_zero, reduceCtorEq, ne_eq, hm, e49, w4, e1, y1, z1, s233]
              exact go'
          · have ei : i = 0 := by omega
            subst ei
            have go' := go false ⟨fun h => (by cases h), fun h => (by rw [List.take_zero] at h; exact nomatch h)⟩
            rw [← hUl] at e49
            simp only [Int.natCast_zero] at go' ⊢
            simp (disch := omega) only [q_236_0, q_236_1, q_236_2, q_236_6, q_236_7, q_236_10, q_236_13, q_236_14, q_236_17, q_236_18, q_236_19, q_236_20, q_236_23, q_236_26, q_236_27, q_236_28, q_236_29, q_236_30, q_236_33, q_236_36, q_236_37, q_236_40, q_236_41, q_236_42, q_236_43, q_236_46, q_236_49, q_236_50, q_236_51, q_236_52, q_236_53, q_236_56, q_236_57, q_236_60, q_236_61, q_236_62, q_236_63, q_236_65, q_236_66, q_236_68, q_236_69, q_236_71, q_236_72, q_236_76, q_236_77, q_236_80, q_236_83, q_236_85, q_236_88, q_236_89, q_236_90, q_236_93, q_236_95, q_236_96, q_236_97, q_236_98, q_236_99, q_236_102, q_236_104, q_236_105, q_236_108, q_236_111, q_236_112, q_236_115, q_236_118, q_236_120, q_236_123, q_236_125, q_236_126, q_236_127, q_236_130, q_236_131, q_236_133, q_236_134, q_236_136, q_236_139, q_236_140, q_236_143, q_236_144, q_236_145, q_236_146, q_236_148, q_236_150, q_236_153, q_236_156, q_236_158, q_236_160, q_236_161, q_236_164, q_236_165, q_236_168, q_236_170, q_236_171, q_236_172, q_236_174, q_236_177, q_236_180, q_236_181, q_236_184, q_236_185, q_236_188, q_236_189, q_236_190, q_236_193, q_236_195, q_236_198, q_236_200, q_236_e, va_rf_s, bz_0, bz_1, bz_ok, bb_ok, Nat.add_assoc, w_lt, w_add, w_sub, w_mul, w_div, em_def, w_eq, w_inT, ↓ilt_t, ↓ilt_f, ↓ieq_t, ↓ieq_f, ntT, w_b, w_ix, kx_v, kx_n, kl_n, kl_i, kl_r, kl_o, inA_i, inA_s, inA_b, inA_z, inA_l, inA_0, inA_4, inA_5, inA_6, inA_7, inA_8, inA_9, inA_10, al_0, al_1, al_2, al_4, al_5, al_98, bsP_2, bsP_3, wr_same, wr_wr, wr_ne, up_same, up_ne, Nat.reduceAdd, Int.reduceAdd, Int.reduceSub, Int.reduceMul, Int.reduceLT, Int.reduceLE, Int.reduceEq, Int.reduceNeg, Int.reduceToNat, Nat.reduceLT, Nat.reduceLeDiff, Nat.reduceEqDiff, ↓reduceIte, true_and, and_true, not_true_eq_false, not_false_eq_true, eq_self, or_true, true_or, or_false, false_or, if_true, if_false, Int.toNat_natCast, w_ite, Nat.add_zero, reduceCtorEq, ne_eq, hm, e49]
            exact go'
      simp (disch := omega) only [q_236_0, q_236_1, q_236_2, q_236_6, q_236_7, q_236_10, q_236_13, q_236_14, q_236_17, q_236_18, q_236_19, q_236_20, q_236_23, q_236_26, q_236_27, q_236_28, q_236_29, q_236_30, q_236_33, q_236_36, q_236_37, q_236_40, q_236_41, q_236_42, q_236_43, q_236_46, q_236_49, q_236_50, q_236_51, q_236_52, q_236_53, q_236_56, q_236_57, q_236_60, q_236_61, q_236_62, q_236_63, q_236_65, q_236_66, q_236_68, q_236_69, q_236_71, q_236_72, q_236_76, q_236_77, q_236_80, q_236_83, q_236_85, q_236_88, q_236_89, q_236_90, q_236_93, q_236_95, q_236_96, q_236_97, q_236_98, q_236_99, q_236_102, q_236_104, q_236_105, q_236_108, q_236_111, q_236_112, q_236_115, q_236_118, q_236_120, q_236_123, q_236_125, q_236_126, q_236_127, q_236_130, q_236_131, q_236_133, q_236_134, q_236_136, q_236_139, q_236_140, q_236_143, q_236_144, q_236_145, q_236_146, q_236_148, q_236_150, q_236_153, q_236_156, q_236_158, q_236_160, q_236_161, q_236_164, q_236_165, q_236_168, q_236_170, q_236_171, q_236_172, q_236_174, q_236_177, q_236_180, q_236_181, q_236_184, q_236_185, q_236_188, q_236_189, q_236_190, q_236_193, q_236_195, q_236_198, q_236_200, q_236_e, va_rf_s, bz_0, bz_1, bz_ok, bb_ok, Nat.add_assoc, w_lt, w_add, w_sub, w_mul, w_div, em_def, w_eq, w_inT, ↓ilt_t, ↓ilt_f, ↓ieq_t, ↓ieq_f, ntT, w_b, w_ix, kx_v, kx_n, kl_n, kl_i, kl_r, kl_o, inA_i, inA_s, inA_b, inA_z, inA_l, inA_0, inA_4, inA_5, inA_6, inA_7, inA_8, inA_9, inA_10, al_0, al_1, al_2, al_4, al_5, al_98, bsP_2, bsP_3, wr_same, wr_wr, wr_ne, up_same, up_ne, Nat.reduceAdd, Int.reduceAdd, Int.reduceSub, Int.reduceMul, Int.reduceLT, Int.reduceLE, Int.reduceEq, Int.reduceNeg, Int.reduceToNat, Nat.reduceLT, Nat.reduceLeDiff, Nat.reduceEqDiff, ↓reduceIte, true_and, and_true, not_true_eq_false, not_false_eq_true, eq_self, or_true, true_or, or_false, false_or, if_true, if_false, Int.toNat_natCast, w_ite, Nat.add_zero, reduceCtorEq, ne_eq]
      exact lp U.length 0 0 0 0 0 none (by omega) ⟨⟨[], List.nodup_nil, fun x => Iff.rfl, rfl⟩, fun _ => ⟨rfl, rfl⟩, fun h => absurd rfl h⟩ (Nat.le_refl _) (Nat.le_refl _) (Nat.le_refl _) (by decide) (fun h => absurd h (by decide))
    · have s155 := fun {d : Nat} {Q : XO → Hp → Prop} {A : Hp} => n155 (d := d) (Q := Q) (A := A) hx (a := 0) (b := 2) (by decide) (by decide) cx
      rw [if_neg cx] at hQ
      simp (disch := omega) only [q_236_0, q_236_1, q_236_2, q_236_6, q_236_7, q_236_10, q_236_13, q_236_14, q_236_17, q_236_18, q_236_19, q_236_20, q_236_23, q_236_26, q_236_27, q_236_28, q_236_29, q_236_30, q_236_33, q_236_36, q_236_37, q_236_40, q_236_41, q_236_42, q_236_43, q_236_46, q_236_49, q_236_50, q_236_51, q_236_52, q_236_53, q_236_56, q_236_57, q_236_60, q_236_61, q_236_62, q_236_63, q_236_65, q_236_66, q_236_68, q_236_69, q_236_71, q_236_72, q_236_76, q_236_77, q_236_80, q_236_83, q_236_85, q_236_88, q_236_89, q_236_90, q_236_93, q_236_95, q_236_96, q_236_97, q_236_98, q_236_99, q_236_102, q_236_104, q_236_105, q_236_108, q_236_111, q_236_112, q_236_115, q_236_118, q_236_120, q_236_123, q_236_125, q_236_126, q_236_127, q_236_130, q_236_131, q_236_133, q_236_134, q_236_136, q_236_139, q_236_140, q_236_143, q_236_144, q_236_145, q_236_146, q_236_148, q_236_150, q_236_153, q_236_156, q_236_158, q_236_160, q_236_161, q_236_164, q_236_165, q_236_168, q_236_170, q_236_171, q_236_172, q_236_174, q_236_177, q_236_180, q_236_181, q_236_184, q_236_185, q_236_188, q_236_189, q_236_190, q_236_193, q_236_195, q_236_198, q_236_200, q_236_e, va_rf_s, bz_0, bz_1, bz_ok, bb_ok, Nat.add_assoc, w_lt, w_add, w_sub, w_mul, w_div, em_def, w_eq, w_inT, ↓ilt_t, ↓ilt_f, ↓ieq_t, ↓ieq_f, ntT, w_b, w_ix, kx_v, kx_n, kl_n, kl_i, kl_r, kl_o, inA_i, inA_s, inA_b, inA_z, inA_l, inA_0, inA_4, inA_5, inA_6, inA_7, inA_8, inA_9, inA_10, al_0, al_1, al_2, al_4, al_5, al_98, bsP_2, bsP_3, wr_same, wr_wr, wr_ne, up_same, up_ne, Nat.reduceAdd, Int.reduceAdd, Int.reduceSub, Int.reduceMul, Int.reduceLT, Int.reduceLE, Int.reduceEq, Int.reduceNeg, Int.reduceToNat, Nat.reduceLT, Nat.reduceLeDiff, Nat.reduceEqDiff, ↓reduceIte, true_and, and_true, not_true_eq_false, not_false_eq_true, eq_self, or_true, true_or, or_false, false_or, if_true, if_false, Int.toNat_natCast, w_ite, Nat.add_zero, reduceCtorEq, ne_eq, hm, s182, s155, b00, b11]
      exact MK.wro h1 hf hF rfl hQ
  · have s182 := fun {d : Nat} {Q : XO → Hp → Prop} {A : Hp} => n182 (d := d) (Q := Q) (A := A) hl cl
    rw [if_neg cl] at hQ
    simp (disch := omega) only [q_236_0, q_236_1, q_236_2, q_236_6, q_236_7, q_236_10, q_236_13, q_236_14, q_236_17, q_236_18, q_236_19, q_236_20, q_236_23, q_236_26, q_236_27, q_236_28, q_236_29, q_236_30, q_236_33, q_236_36, q_236_37, q_236_40, q_236_41, q_236_42, q_236_43, q_236_46, q_236_49, q_236_50, q_236_51, q_236_52, q_236_53, q_236_56, q_236_57, q_236_60, q_236_61, q_236_62, q_236_63, q_236_65, q_236_66, q_236_68, q_236_69, q_236_71, q_236_72, q_236_76, q_236_77, q_236_80, q_236_83, q_236_85, q_236_88, q_236_89, q_236_90, q_236_93, q_236_95, q_236_96, q_236_97, q_236_98, q_236_99, q_236_102, q_236_104, q_236_105, q_236_108, q_236_111, q_236_112, q_236_115, q_236_118, q_236_120, q_236_123, q_236_125, q_236_126, q_236_127, q_236_130, q_236_131, q_236_133, q_236_134, q_236_136, q_236_139, q_236_140, q_236_143, q_236_144, q_236_145, q_236_146, q_236_148, q_236_150, q_236_153, q_236_156, q_236_158, q_236_160, q_236_161, q_236_164, q_236_165, q_236_168, q_236_170, q_236_171, q_236_172, q_236_174, q_236_177, q_236_180, q_236_181, q_236_184, q_236_185, q_236_188, q_236_189, q_236_190, q_236_193, q_236_195, q_236_198, q_236_200, q_236_e, va_rf_s, bz_0, bz_1, bz_ok, bb_ok, Nat.add_assoc, w_lt, w_add, w_sub, w_mul, w_div, em_def, w_eq, w_inT, ↓ilt_t, ↓ilt_f, ↓ieq_t, ↓ieq_f, ntT, w_b, w_ix, kx_v, kx_n, kl_n, kl_i, kl_r, kl_o, inA_i, inA_s, inA_b, inA_z, inA_l, inA_0, inA_4, inA_5, inA_6, inA_7, inA_8, inA_9, inA_10, al_0, al_1, al_2, al_4, al_5, al_98, bsP_2, bsP_3, wr_same, wr_wr, wr_ne, up_same, up_ne, Nat.reduceAdd, Int.reduceAdd, Int.reduceSub, Int.reduceMul, Int.reduceLT, Int.reduceLE, Int.reduceEq, Int.reduceNeg, Int.reduceToNat, Nat.reduceLT, Nat.reduceLeDiff, Nat.reduceEqDiff, ↓reduceIte, true_and, and_true, not_true_eq_false, not_false_eq_true, eq_self, or_true, true_or, or_false, false_or, if_true, if_false, Int.toNat_natCast, w_ite, Nat.add_zero, reduceCtorEq, ne_eq, hm, s182, b10]
    exact MK.mis h1 hf hF hQ
end

/-! the model's words: all laid, sorted, counted -/
section
variable {d : Nat} {Q : XO → Hp → Prop} {S : SH} {I : MI} {L : ML} {R : MR} {G : MG} {A : Hp}
variable {m : Nat} {s : St} {two : Bool}
theorem gds {V : List (List Int)} {x : List Int} {i : Nat} : (V ++ [x]).getD i [] = if i < V.length then V.getD i [] else if i = V.length then x else [] := by
  rw [List.getD_eq_getElem?_getD, List.getElem?_append]
  by_cases h : i < V.length
  · rw [if_pos h, if_pos h, ← List.getD_eq_getElem?_getD]
  · rw [if_neg h, if_neg h]
    by_cases e : i = V.length
    · rw [if_pos e, e, Nat.sub_self]; rfl
    · rw [if_neg e]
      rw [List.getElem?_eq_none (by rw [List.length_cons, List.length_nil]; omega)]; rfl
theorem WdM.snoc {I1 I2 : MI} {V : List (List Int)} {P : Nat → Nat} {p : Nat} {b : Int} (h : WdM I1 m V P) (e49 : I2 m 49 = w (V.length + 1 : Nat)) (e1 : I2 (m + 6674) = up (I1 (m + 6674)) V.length (w p)) (e2 : ∀ i, i ≠ V.length → I2 (m + 6675) i = I1 (m + 6675) i) (e2' : I2 (m + 6675) V.length = w 1) (e3 : I2 (m + 6677) = up (I1 (m + 6677)) V.length (w V.length)) (e4 : I2 (m + 6577) = I1 (m + 6577)) (hb : I1 (m + 6577) p = w b) (hp : p + 1 ≤ 100100) : WdM I2 m (V ++ [[b]]) (up P V.length p) := by
  refine ⟨by rw [List.length_append]; exact e49, fun i hi => ?_⟩
  rw [List.length_append, List.length_cons, List.length_nil] at hi
  rw [gds, e1, e3, e4]
  by_cases c : i < V.length
  · obtain ⟨a1, a2, a3, a4, a5⟩ := h.2 i c
    rw [if_pos c, up_ne (by omega), up_ne (by omega), up_ne (by omega), e2 i (by omega)]
    exact ⟨a1, a2, a3, a4, a5⟩
  · have ei : i = V.length := by omega
    subst ei
    rw [if_neg c, if_pos rfl, up_same, up_same, up_same]
    refine ⟨rfl, e2', rfl, fun i hi => ?_, hp⟩
    have : i = 0 := by simpa using hi
    subst this
    exact hb
theorem WdM.ext {I1 I2 : MI} {V : List (List Int)} {c : List Int} {P : Nat → Nat} {b : Int} (h : WdM I1 m (V ++ [c]) P) (e49 : I2 m 49 = I1 m 49) (e1 : I2 (m + 6674) = I1 (m + 6674)) (e2 : I2 (m + 6675) = up (I1 (m + 6675)) V.length (w (c.length + 1 : Nat))) (e3 : I2 (m + 6677) = I1 (m + 6677)) (e4 : I2 (m + 6577) = I1 (m + 6577)) (hb : I1 (m + 6577) (P V.length + c.length) = w b) (hp : P V.length + c.length + 1 ≤ 100100) : WdM I2 m (V ++ [c ++ [b]]) P := by
  obtain ⟨h49, hv⟩ := h
  rw [List.length_append, List.length_cons, List.length_nil] at h49 hv
  refine ⟨by rw [List.length_append, e49]; exact h49, fun i hi => ?_⟩
  rw [List.length_append, List.length_cons, List.length_nil] at hi
  have hvi := hv i hi
  rw [gds] at hvi ⊢
  rw [e1, e2, e3, e4]
  by_cases c1 : i < V.length
  · rw [if_pos c1] at hvi ⊢
    rw [up_ne (by omega)]
    exact hvi
  · have ei : i = V.length := by omega
    subst ei
    rw [if_neg c1, if_pos rfl] at hvi ⊢
    obtain ⟨a1, a2, a3, a4, a5⟩ := hvi
    rw [up_same, List.length_append, List.length_cons, List.length_nil]
    refine ⟨a1, rfl, a3, Txt_app a4 (fun i hi => ?_), by omega⟩
    have : i = 0 := by simpa using hi
    subst this
    exact hb
theorem sp_235 {rs : List Rl} {h : Nat} (hL : MLay S R m) (hr : rsOk rs) (hA : LdA I m rs h) (h13 : I m 13 = w h) (hh : h ≤ 1000)
    (hQ : ∀ (I' : MI) (P : Nat → Nat) (ys : List Nat), WdF I I' m → I' m 49 = w (wl_ rs (h + 1)).length → (∀ i, i < (wl_ rs (h + 1)).length → I' (m + 6674) i = w (P i) ∧ I' (m + 6675) i = w ((wl_ rs (h + 1)).getD i []).length ∧ Txt (I' (m + 6577)) (P i) ((wl_ rs (h + 1)).getD i []) ∧ P i + ((wl_ rs (h + 1)).getD i []).length ≤ 100100) → ys.Pairwise (klt (fun i => (wl_ rs (h + 1)).getD i [])) → (∀ z, z ∈ ys ↔ z < (wl_ rs (h + 1)).length) → ys.length = (wl_ rs (h + 1)).length → Txt (I' (m + 6677)) 0 (zl ys) → Q (.inl none) (mk S I' L R G)) : XC (d + 66) 235 [.ref m] (mk S I L R G) Q := by
  have hm := hL.1
  obtain ⟨k1, k2, k3, -⟩ := hL.2.2.2.2.2.2.2.2.1
  obtain ⟨-, w1, w2, w3, w4⟩ := hL.2.2.2.2.2.2.2.2.2.2
  have keepA : ∀ I1 : MI, WdF I I1 m → LdA I1 m rs h := fun I1 hF => hA.keep (hF.1 _ (by omega) (by omega)) (hF.1 _ (by omega) (by omega)) (hF.1 _ (by omega) (by omega))
  have lp : ∀ (j n : Nat) (I1 : MI) (P : Nat → Nat) (o2 o3 : Option Value), n + j = h + 1 → WdF I I1 m → WdM I1 m (wl_ rs n) P → XX (d + 66) 235 7 [some (.ref m), some (.int (w n)), o2, o3] [] (mk S I1 L R G) Q := by
    intro j
    induction j with
    | zero =>
      intro n I1 P o2 o3 hn hF hW
      have : n = h + 1 := by omega
      subst this
      have e13 : I1 m 13 = w h := by rw [hF.2 13 (by decide)]; exact h13
      have hwb := wl_b hr (h + 1)
      have hok := wl_ok hr (h + 1)
      obtain ⟨e49, hV⟩ := hW
      rw [q_235_7]
      simp (disch := omega) only [q_235_0, q_235_1, q_235_2, q_235_5, q_235_6, q_235_8, q_235_9, q_235_12, q_235_15, q_235_16, q_235_18, q_235_19, q_235_22, q_235_23, q_235_24, q_235_27, q_235_28, q_235_31, q_235_32, q_235_33, q_235_34, q_235_35, q_235_36, q_235_37, q_235_40, q_235_41, q_235_42, q_235_44, q_235_47, q_235_50, q_235_51, q_235_54, q_235_55, q_235_58, q_235_59, q_235_60, q_235_61, q_235_62, q_235_64, q_235_67, q_235_68, q_235_71, q_235_72, q_235_75, q_235_76, q_235_77, q_235_78, q_235_81, q_235_82, q_235_85, q_235_86, q_235_87, q_235_88, q_235_91, q_235_92, q_235_95, q_235_96, q_235_99, q_235_100, q_235_101, q_235_102, q_235_105, q_235_106, q_235_107, q_235_110, q_235_111, q_235_114, q_235_115, q_235_118, q_235_119, q_235_120, q_235_121, q_235_122, q_235_123, q_235_124, q_235_125, q_235_128, q_235_131, q_235_134, q_235_137, q_235_138, q_235_139, q_235_140, q_235_143, q_235_146, q_235_e, va_rf_s, bz_0, bz_1, bz_ok, bb_ok, Nat.add_assoc, w_lt, w_add, w_sub, w_mul, w_div, em_def, w_eq, w_inT, ↓ilt_t, ↓ilt_f, ↓ieq_t, ↓ieq_f, ntT, w_b, w_ix, kx_v, kx_n, kl_n, kl_i, kl_r, kl_o, inA_i, inA_s, inA_b, inA_z, inA_l, inA_0, inA_4, inA_5, inA_6, inA_7, inA_8, inA_9, inA_10, al_0, al_1, al_2, al_4, al_5, al_98, bsP_2, bsP_3, wr_same, wr_wr, wr_ne, up_same, up_ne, Nat.reduceAdd, Int.reduceAdd, Int.reduceSub, Int.reduceMul, Int.reduceLT, Int.reduceLE, Int.reduceEq, Int.reduceNeg, Int.reduceToNat, Nat.reduceLT, Nat.reduceLeDiff, Nat.reduceEqDiff, ↓reduceIte, true_and, and_true, not_true_eq_false, not_false_eq_true, eq_self, or_true, true_or, or_false, false_or, if_true, if_false, Int.toNat_natCast, w_ite, Nat.add_zero, reduceCtorEq, ne_eq, hm, e13, e49]
      generalize wl_ rs (h + 1) = V at e49 hV hwb hok hQ
      have hbk : ∀ i, i < V.length → bOk (V.getD i []) := fun i hi b hb => by
        have hmem : V.getD i [] ∈ V := by rw [List.getD_eq_getElem?_getD, List.getElem?_eq_getElem hi]; exact List.getElem_mem hi
        exact Or.inr ((hok _ hmem).2 b hb)
      have hlen : ∀ i, i < V.length → (V.getD i []).length ≤ 100 := fun i hi => by
        have hmem : V.getD i [] ∈ V := by rw [List.getD_eq_getElem?_getD, List.getElem?_eq_getElem hi]; exact List.getElem_mem hi
        exact hwb.2 _ hmem
      have hNb : V.length ≤ 50050 := by omega
      have hz : zl (List.range V.length) = (List.range V.length).map (fun n : Nat => (n : Int)) := rfl
      have := sp_234 (S := S) (I := I1) (L := L) (R := R) (G := G) (m := m) (tx := fun i => V.getD i []) (Dm := fun a => a < V.length) (N := 50052) hm w4 w3 (by decide) (fun a ha => by omega) (fun a b ha hb => by
        have h1 := hlen a ha
        have h2 := hlen b hb
        have := lexc_bd (V.getD a []) (V.getD b [])
        show -2000 ≤ lexc (V.getD a []) (V.getD b []) ∧ _
        omega) (fun I' a b hf ha hb d Q => by
        obtain ⟨a1, a2, a3, a4, a5⟩ := hV a ha
        obtain ⟨b1, b2, b3, b4, b5⟩ := hV b hb
        exact sp_233 hL (by omega) (by omega) (by rw [hf _ (by omega) (by omega)]; exact a1) (by rw [hf _ (by omega) (by omega)]; exact a2) (by rw [hf _ (by omega) (by omega)]; exact a4) a5 (by rw [hf _ (by omega) (by omega)]; exact b1) (by rw [hf _ (by omega) (by omega)]; exact b2) (by rw [hf _ (by omega) (by omega)]; exact b4) b5 (hbk a ha) (hbk b hb)) 16 (List.range V.length) 0 (d + 63) I1
      simp only [Nat.zero_add, Int.natCast_zero, List.length_range] at this
      refine this _ (by omega) (by omega) (fun n hn => List.mem_range.mp hn) List.pairwise_lt_range (by omega) (fun _ _ _ => trivial) (fun i hi => ?_) (fun I3 ys g1 hp hmem hlen' gT _ => ?_)
      · rw [zl_len, List.length_range] at hi
        rw [Nat.zero_add, zl_get, (hV i hi).2.2.1]
        congr 1
        rw [List.getD_eq_getElem?_getD, List.getElem?_range hi]; rfl
      · simp (disch := omega) only [q_235_0, q_235_1, q_235_2, q_235_5, q_235_6, q_235_8, q_235_9, q_235_12, q_235_15, q_235_16, q_235_18, q_235_19, q_235_22, q_235_23, q_235_24, q_235_27, q_235_28, q_235_31, q_235_32, q_235_33, q_235_34, q_235_35, q_235_36, q_235_37, q_235_40, q_235_41, q_235_42, q_235_44, q_235_47, q_235_50, q_235_51, q_235_54, q_235_55, q_235_58, q_235_59, q_235_60, q_235_61, q_235_62, q_235_64, q_235_67, q_235_68, q_235_71, q_235_72, q_235_75, q_235_76, q_235_77, q_235_78, q_235_81, q_235_82, q_235_85, q_235_86, q_235_87, q_235_88, q_235_91, q_235_92, q_235_95, q_235_96, q_235_99, q_235_100, q_235_101, q_235_102, q_235_105, q_235_106, q_235_107, q_235_110, q_235_111, q_235_114, q_235_115, q_235_118, q_235_119, q_235_120, q_235_121, q_235_122, q_235_123, q_235_124, q_235_125, q_235_128, q_235_131, q_235_134, q_235_137, q_235_138, q_235_139, q_235_140, q_235_143, q_235_146, q_235_e, va_rf_s, bz_0, bz_1, bz_ok, bb_ok, Nat.add_assoc, w_lt, w_add, w_sub, w_mul, w_div, em_def, w_eq, w_inT, ↓ilt_t, ↓ilt_f, ↓ieq_t, ↓ieq_f, ntT, w_b, w_ix, kx_v, kx_n, kl_n, kl_i, kl_r, kl_o, inA_i, inA_s, inA_b, inA_z, inA_l, inA_0, inA_4, inA_5, inA_6, inA_7, inA_8, inA_9, inA_10, al_0, al_1, al_2, al_4, al_5, al_98, bsP_2, bsP_3, wr_same, wr_wr, wr_ne, up_same, up_ne, Nat.reduceAdd, Int.reduceAdd, Int.reduceSub, Int.reduceMul, Int.reduceLT, Int.reduceLE, Int.reduceEq, Int.reduceNeg, Int.reduceToNat, Nat.reduceLT, Nat.reduceLeDiff, Nat.reduceEqDiff, ↓reduceIte, true_and, and_true, not_true_eq_false, not_false_eq_true, eq_self, or_true, true_or, or_false, false_or, if_true, if_false, Int.toNat_natCast, w_ite, Nat.add_zero, reduceCtorEq, ne_eq]
        refine hQ I3 P ys ⟨fun x h1 h2 => by rw [g1 x (by omega) (by omega), hF.1 x h1 h2], fun j hj => by rw [g1 m (by omega) (by omega), hF.2 j hj]⟩ (by rw [g1 m (by omega) (by omega)]; exact e49) (fun i hi => ?_) hp (fun z => by rw [hmem, List.mem_range]) hlen' gT
        obtain ⟨a1, a2, a3, a4, a5⟩ := hV i hi
        exact ⟨by rw [g1 _ (by omega) (by omega)]; exact a1, by rw [g1 _ (by omega) (by omega)]; exact a2, by rw [g1 _ (by omega) (by omega)]; exact a4, a5⟩
    | succ j ih =>
      intro n I1 P o2 o3 hn hF hW
      have e13 : I1 m 13 = w h := by rw [hF.2 13 (by decide)]; exact h13
      have ih' := fun I2 P o2 o3 => ih (n + 1) I2 P o2 o3 (by omega)
      have eln := (keepA I1 hF).len (show n ≤ h by omega)
      rw [q_235_7]
      simp (disch := omega) only [q_235_0, q_235_1, q_235_2, q_235_5, q_235_6, q_235_8, q_235_9, q_235_12, q_235_15, q_235_16, q_235_18, q_235_19, q_235_22, q_235_23, q_235_24, q_235_27, q_235_28, q_235_31, q_235_32, q_235_33, q_235_34, q_235_35, q_235_36, q_235_37, q_235_40, q_235_41, q_235_42, q_235_44, q_235_47, q_235_50, q_235_51, q_235_54, q_235_55, q_235_58, q_235_59, q_235_60, q_235_61, q_235_62, q_235_64, q_235_67, q_235_68, q_235_71, q_235_72, q_235_75, q_235_76, q_235_77, q_235_78, q_235_81, q_235_82, q_235_85, q_235_86, q_235_87, q_235_88, q_235_91, q_235_92, q_235_95, q_235_96, q_235_99, q_235_100, q_235_101, q_235_102, q_235_105, q_235_106, q_235_107, q_235_110, q_235_111, q_235_114, q_235_115, q_235_118, q_235_119, q_235_120, q_235_121, q_235_122, q_235_123, q_235_124, q_235_125, q_235_128, q_235_131, q_235_134, q_235_137, q_235_138, q_235_139, q_235_140, q_235_143, q_235_146, q_235_e, va_rf_s, bz_0, bz_1, bz_ok, bb_ok, Nat.add_assoc, w_lt, w_add, w_sub, w_mul, w_div, em_def, w_eq, w_inT, ↓ilt_t, ↓ilt_f, ↓ieq_t, ↓ieq_f, ntT, w_b, w_ix, kx_v, kx_n, kl_n, kl_i, kl_r, kl_o, inA_i, inA_s, inA_b, inA_z, inA_l, inA_0, inA_4, inA_5, inA_6, inA_7, inA_8, inA_9, inA_10, al_0, al_1, al_2, al_4, al_5, al_98, bsP_2, bsP_3, wr_same, wr_wr, wr_ne, up_same, up_ne, Nat.reduceAdd, Int.reduceAdd, Int.reduceSub, Int.reduceMul, Int.reduceLT, Int.reduceLE, Int.reduceEq, Int.reduceNeg, Int.reduceToNat, Nat.reduceLT, Nat.reduceLeDiff, Nat.reduceEqDiff, ↓reduceIte, true_and, and_true, not_true_eq_false, not_false_eq_true, eq_self, or_true, true_or, or_false, false_or, if_true, if_false, Int.toNat_natCast, w_ite, Nat.add_zero, reduceCtorEq, ne_eq, hm, e13]
      cases hT : T rs (n : Int) with
      | none =>
        have etx : wl_ rs (n + 1) = wl_ rs n := by
          show wl_ rs n ++ wds (tx rs n) = _
          unfold tx
          rw [hT]
          exact List.append_nil _
        rw [hT] at eln
        rw [etx] at ih'
        simp only [Int.natCast_add, Int.natCast_one] at ih'
        rw [q_235_17]
        simp (disch := omega) only [q_235_0, q_235_1, q_235_2, q_235_5, q_235_6, q_235_8, q_235_9, q_235_12, q_235_15, q_235_16, q_235_18, q_235_19, q_235_22, q_235_23, q_235_24, q_235_27, q_235_28, q_235_31, q_235_32, q_235_33, q_235_34, q_235_35, q_235_36, q_235_37, q_235_40, q_235_41, q_235_42, q_235_44, q_235_47, q_235_50, q_235_51, q_235_54, q_235_55, q_235_58, q_235_59, q_235_60, q_235_61, q_235_62, q_235_64, q_235_67, q_235_68, q_235_71, q_235_72, q_235_75, q_235_76, q_235_77, q_235_78, q_235_81, q_235_82, q_235_85, q_235_86, q_235_87, q_235_88, q_235_91, q_235_92, q_235_95, q_235_96, q_235_99, q_235_100, q_235_101, q_235_102, q_235_105, q_235_106, q_235_107, q_235_110, q_235_111, q_235_114, q_235_115, q_235_118, q_235_119, q_235_120, q_235_121, q_235_122, q_235_123, q_235_124, q_235_125, q_235_128, q_235_131, q_235_134, q_235_137, q_235_138, q_235_139, q_235_140, q_235_143, q_235_146, q_235_e, va_rf_s, bz_0, bz_1, bz_ok, bb_ok, Nat.add_assoc, w_lt, w_add, w_sub, w_mul, w_div, em_def, w_eq, w_inT, ↓ilt_t, ↓ilt_f, ↓ieq_t, ↓ieq_f, ntT, w_b, w_ix, kx_v, kx_n, kl_n, kl_i, kl_r, kl_o, inA_i, inA_s, inA_b, inA_z, inA_l, inA_0, inA_4, inA_5, inA_6, inA_7, inA_8, inA_9, inA_10, al_0, al_1, al_2, al_4, al_5, al_98, bsP_2, bsP_3, wr_same, wr_wr, wr_ne, up_same, up_ne, Nat.reduceAdd, Int.reduceAdd, Int.reduceSub, Int.reduceMul, Int.reduceLT, Int.reduceLE, Int.reduceEq, Int.reduceNeg, Int.reduceToNat, Nat.reduceLT, Nat.reduceLeDiff, Nat.reduceEqDiff, ↓reduceIte, true_and, and_true, not_true_eq_false, not_false_eq_true, eq_self, or_true, true_or, or_false, false_or, if_true, if_false, Int.toNat_natCast, w_ite, Nat.add_zero, reduceCtorEq, ne_eq, hm, k3, eln]
        exact ih' I1 P _ _ hF hW
      | some t =>
        have hto := T_ok hr hT
        have etx : wl_ rs (n + 1) = wl_ rs n ++ wds t := by
          show wl_ rs n ++ wds (tx rs n) = _
          unfold tx
          rw [hT]; rfl
        rw [etx] at ih'
        simp only [Int.natCast_add, Int.natCast_one] at ih'
        have hb2 := bgn_le hr (n + 1)
        rw [bgn_s hT] at hb2
        have hwn := (wl_b hr n).1
        -- the bytes of a text
        have lp2 : ∀ (j k : Nat) (I2 : MI) (P2 : Nat → Nat) (o3 : Option Value), k + j = t.length → WdF I I2 m → WdM I2 m (wl_ rs n ++ dnA (t.take k) [] ++ lw (cwA (t.take k) [])) P2 → (cwA (t.take k) [] ≠ [] → P2 ((wl_ rs n ++ dnA (t.take k) []).length) + (cwA (t.take k) []).length = bgn rs n + k) → XX (d + 66) 235 17 [some (.ref m), some (.int (w n)), some (.int (w k)), o3] [] (mk S I2 L R G) Q := by
          intro j
          induction j with
          | zero =>
            intro k I2 P2 o3 hk hF2 hW2 _
            have : k = t.length := by omega
            subst this
            have eln2 := (keepA I2 hF2).len (show n ≤ h by omega)
            rw [hT] at eln2
            rw [List.take_length, List.append_assoc, ← wdsA_dn] at hW2
            rw [q_235_17]
            simp (disch := omega) only [q_235_0, q_235_1, q_235_2, q_235_5, q_235_6, q_235_8, q_235_9, q_235_12, q_235_15, q_235_16, q_235_18, q_235_19, q_235_22, q_235_23, q_235_24, q_235_27, q_235_28, q_235_31, q_235_32, q_235_33, q_235_34, q_235_35, q_235_36, q_235_37, q_235_40, q_235_41, q_235_42, q_235_44, q_235_47, q_235_50, q_235_51, q_235_54, q_235_55, q_235_58, q_235_59, q_235_60, q_235_61, q_235_62, q_235_64, q_235_67, q_235_68, q_235_71, q_235_72, q_235_75, q_235_76, q_235_77, q_235_78, q_235_81, q_235_82, q_235_85, q_235_86, q_235_87, q_235_88, q_235_91, q_235_92, q_235_95, q_235_96, q_235_99, q_235_100, q_235_101, q_235_102, q_235_105, q_235_106, q_235_107, q_235_110, q_235_111, q_235_114, q_235_115, q_235_118, q_235_119, q_235_120, q_235_121, q_235_122, q_235_123, q_235_124, q_235_125, q_235_128, q_235_131, q_235_134, q_235_137, q_235_138, q_235_139, q_235_140, q_235_143, q_235_146, q_235_e, va_rf_s, bz_0, bz_1, bz_ok, bb_ok, Nat.add_assoc, w_lt, w_add, w_sub, w_mul, w_div, em_def, w_eq, w_inT, ↓ilt_t, ↓ilt_f, ↓ieq_t, ↓ieq_f, ntT, w_b, w_ix, kx_v, kx_n, kl_n, kl_i, kl_r, kl_o, inA_i, inA_s, inA_b, inA_z, inA_l, inA_0, inA_4, inA_5, inA_6, inA_7, inA_8, inA_9, inA_10, al_0, al_1, al_2, al_4, al_5, al_98, bsP_2, bsP_3, wr_same, wr_wr, wr_ne, up_same, up_ne, Nat.reduceAdd, Int.reduceAdd, Int.reduceSub, Int.reduceMul, Int.reduceLT, Int.reduceLE, Int.reduceEq, Int.reduceNeg, Int.reduceToNat, Nat.reduceLT, Nat.reduceLeDiff, Nat.reduceEqDiff, ↓reduceIte, true_and, and_true, not_true_eq_false, not_false_eq_true, eq_self, or_true, true_or, or_false, false_or, if_true, if_false, Int.toNat_natCast, w_ite, Nat.add_zero, reduceCtorEq, ne_eq, hm, k3, eln2]
            exact ih' I2 P2 _ _ hF2 hW2
          | succ j jh =>
            intro k I2 P2 o3 hk hF2 hW2 hP2
            have hkl : k < t.length := by omega
            have hA2 := keepA I2 hF2
            have eln2 := hA2.len (show n ≤ h by omega)
            rw [hT] at eln2
            obtain ⟨abg, -, abt⟩ := hA2 n (by omega)
            obtain ⟨-, aT⟩ := abt t hT
            have ech := aT k hkl
            have hg := hto.1.get hkl
            have hsn : t.take (k + 1) = t.take k ++ [t.getD k 0] := by
              rw [List.take_add_one, List.getD_eq_getElem?_getD, List.getElem?_eq_getElem hkl]; rfl
            have jh' := fun I3 P3 o3 => jh (k + 1) I3 P3 o3 (by omega)
            rw [hsn, cwA_snoc, dnA_snoc] at jh'
            simp only [Int.natCast_add, Int.natCast_one] at jh'
            have epk : ((bgn rs n : Int) + k).toNat = bgn rs n + k := by omega
            have hbk : bOk (t.take k) := fun b hb => hto.1 b (List.mem_of_mem_take hb)
            have hwt := wds_b hbk (by rw [List.length_take]; omega)
            have hwd : wds (t.take k) = dnA (t.take k) [] ++ lw (cwA (t.take k) []) := wdsA_dn _ _
            have hVl : (wl_ rs n ++ dnA (t.take k) [] ++ lw (cwA (t.take k) [])).length ≤ 50050 := by
              rw [List.append_assoc, ← hwd, List.length_append]; omega
            have hlast := cwA_last (t.take k) []
            rw [q_235_17]
            by_cases cb : t.getD k 0 = 32
            · rw [if_pos cb, if_pos cb] at jh'
              simp (disch := omega) only [q_235_0, q_235_1, q_235_2, q_235_5, q_235_6, q_235_8, q_235_9, q_235_12, q_235_15, q_235_16, q_235_18, q_235_19, q_235_22, q_235_23, q_235_24, q_235_27, q_235_28, q_235_31, q_235_32, q_235_33, q_235_34, q_235_35, q_235_36, q_235_37, q_235_40, q_235_41, q_235_42, q_235_44, q_235_47, q_235_50, q_235_51, q_235_54, q_235_55, q_235_58, q_235_59, q_235_60, q_235_61, q_235_62, q_235_64, q_235_68, q_235_71, q_235_72, q_235_75, q_235_76, q_235_77, q_235_78, q_235_81, q_235_82, q_235_85, q_235_86, q_235_87, q_235_88, q_235_91, q_235_92, q_235_95, q_235_96, q_235_99, q_235_100, q_235_101, q_235_102, q_235_105, q_235_106, q_235_107, q_235_111, q_235_114, q_235_115, q_235_118, q_235_119, q_235_120, q_235_121, q_235_122, q_235_123, q_235_124, q_235_125, q_235_128, q_235_131, q_235_134, q_235_137, q_235_138, q_235_139, q_235_140, q_235_143, q_235_146, q_235_e, va_rf_s, bz_0, bz_1, bz_ok, bb_ok, Nat.add_assoc, w_lt, w_add, w_sub, w_mul, w_div, em_def, w_eq, w_inT, ↓ilt_t, ↓ilt_f, ↓ieq_t, ↓ieq_f, ntT, w_b, w_ix, kx_v, kx_n, kl_n, kl_i, kl_r, kl_o, inA_i, inA_s, inA_b, inA_z, inA_l, inA_0, inA_4, inA_5, inA_6, inA_7, inA_8, inA_9, inA_10, al_0, al_1, al_2, al_4, al_5, al_98, bsP_2, bsP_3, wr_same, wr_wr, wr_ne, up_same, up_ne, Nat.reduceAdd, Int.reduceAdd, Int.reduceSub, Int.reduceMul, Int.reduceLT, Int.reduceLE, Int.reduceEq, Int.reduceNeg, Int.reduceToNat, Nat.reduceLT, Nat.reduceLeDiff, Nat.reduceEqDiff, ↓reduceIte, true_and, and_true, not_true_eq_false, not_false_eq_true, eq_self, or_true, true_or, or_false, false_or, if_true, if_false, Int.toNat_natCast, w_ite, Nat.add_zero, reduceCtorEq, ne_eq, hm, k1, k2, k3, eln2, abg, epk, ech]
              refine jh' I2 P2 _ hF2 ?_ (fun h => absurd rfl h)
              rw [← List.append_assoc]
              show WdM I2 m (wl_ rs n ++ dnA (t.take k) [] ++ lw (cwA (t.take k) []) ++ []) P2
              rw [List.append_nil]
              exact hW2
            · rw [if_neg cb, if_neg cb] at jh'
              by_cases cc : cwA (t.take k) [] = []
              · -- a word begins
                have hwt' := (wds_b (t := t.take (k + 1)) (fun b hb => hto.1 b (List.mem_of_mem_take hb)) (by rw [List.length_take]; omega)).1
                have hwd' : wds (t.take (k + 1)) = dnA (t.take k) [] ++ [[t.getD k 0]] := by
                  rw [hsn]
                  show wdsA (t.take k ++ [t.getD k 0]) [] = _
                  rw [wdsA_dn, dnA_snoc, cwA_snoc, if_neg cb, if_neg cb, cc]; rfl
                rw [hwd', List.length_append, List.length_cons, List.length_nil] at hwt'
                have hnl : (wl_ rs n).length + (dnA (t.take k) []).length ≤ 50049 := by omega
                rw [cc, show lw [] = [] from rfl, List.append_nil] at hW2
                rw [cc, show lw ([] ++ [t.getD k 0]) = [[t.getD k 0]] from rfl] at jh'
                have beg : XX (d + 66) 235 67 [some (.ref m), some (.int (w n)), some (.int (w k)), some (.int (w ((bgn rs n : Int) + k)))] [] (mk S I2 L R G) Q := by
                  have e49 := hW2.1
                  have hVN : (wl_ rs n ++ dnA (t.take k) []).length ≤ 50049 := by rw [List.length_append]; exact hnl
                  have hP' : ∀ I3 : MI, WdF I2 I3 m → WdM I3 m ((wl_ rs n ++ dnA (t.take k) []) ++ [[t.getD k 0]]) (up P2 (wl_ rs n ++ dnA (t.take k) []).length (bgn rs n + k)) → XX (d + 66) 235 17 [some (.ref m), some (.int (w n)), some (.int (w ((k : Int) + 1))), some (.int (w ((bgn rs n : Int) + k)))] [] (mk S I3 L R G) Q := fun I3 hF3 hW3 => by
                    refine jh' I3 _ _ ⟨fun x h1 h2 => by rw [hF3.1 x h1 h2, hF2.1 x h1 h2], fun j hj => by rw [hF3.2 j hj, hF2.2 j hj]⟩ hW3 (fun _ => ?_)
                    rw [up_same]; rfl
                  generalize hVe : wl_ rs n ++ dnA (t.take k) [] = V at e49 hVN hP' hW2
                  rw [q_235_67]
                  simp (disch := omega) only [q_235_0, q_235_1, q_235_2, q_235_5, q_235_6, q_235_8, q_235_9, q_235_12, q_235_15, q_235_16, q_235_18, q_235_19, q_235_22, q_235_23, q_235_24, q_235_27, q_235_28, q_235_31, q_235_32, q_235_33, q_235_34, q_235_35, q_235_36, q_235_37, q_235_40, q_235_41, q_235_42, q_235_44, q_235_47, q_235_50, q_235_51, q_235_54, q_235_55, q_235_58, q_235_59, q_235_60, q_235_61, q_235_62, q_235_64, q_235_68, q_235_71, q_235_72, q_235_75, q_235_76, q_235_77, q_235_78, q_235_81, q_235_82, q_235_85, q_235_86, q_235_87, q_235_88, q_235_91, q_235_92, q_235_95, q_235_96, q_235_99, q_235_100, q_235_101, q_235_102, q_235_105, q_235_106, q_235_107, q_235_110, q_235_111, q_235_114, q_235_115, q_235_118, q_235_119, q_235_120, q_235_121, q_235_122, q_235_123, q_235_124, q_235_125, q_235_128, q_235_131, q_235_134, q_235_137, q_235_138, q_235_139, q_235_140, q_235_143, q_235_146, q_235_e, va_rf_s, bz_0, bz_1, bz_ok, bb_ok, Nat.add_assoc, w_lt, w_add, w_sub, w_mul, w_div, em_def, w_eq, w_inT, ↓ilt_t, ↓ilt_f, ↓ieq_t, ↓ieq_f, ntT, w_b, w_ix, kx_v, kx_n, kl_n, kl_i, kl_r, kl_o, inA_i, inA_s, inA_b, inA_z, inA_l, inA_0, inA_4, inA_5, inA_6, inA_7, inA_8, inA_9, inA_10, al_0, al_1, al_2, al_4, al_5, al_98, bsP_2, bsP_3, wr_same, wr_wr, wr_ne, up_same, up_ne, Nat.reduceAdd, Int.reduceAdd, Int.reduceSub, Int.reduceMul, Int.reduceLT, Int.reduceLE, Int.reduceEq, Int.reduceNeg, Int.reduceToNat, Nat.reduceLT, Nat.reduceLeDiff, Nat.reduceEqDiff, ↓reduceIte, true_and, and_true, not_true_eq_false, not_false_eq_true, eq_self, or_true, true_or, or_false, false_or, if_true, if_false, Int.toNat_natCast, w_ite, Nat.add_zero, reduceCtorEq, ne_eq, hm, e49, w1, w2, w4, Int.add_sub_cancel]
                  refine hP' _ ⟨fun x h1 h2 => ?_, fun j hj => ?_⟩ (hW2.snoc (I2 := _) ?_ ?_ (fun i hi => ?_) ?_ ?_ ?_ ech (by omega))
                  · simp (disch := omega) only [wr_ne]
                  · simp (disch := omega) only [wr_ne, wr_same, up_ne]
                  · simp (disch := omega) only [wr_ne, wr_same, up_same]; rfl
                  · simp (disch := omega) only [wr_ne, wr_same]; rfl
                  · simp (disch := omega) only [wr_ne, wr_same, up_ne]
                  · simp (disch := omega) only [wr_ne, wr_same, up_same]
                  · simp (disch := omega) only [wr_ne, wr_same]
                  · simp (disch := omega) only [wr_ne]
                by_cases c0 : k = 0
                · subst c0
                  simp only [Int.natCast_zero, Int.add_zero, Nat.add_zero] at ech epk beg ⊢
                  simp (disch := omega) only [q_235_0, q_235_1, q_235_2, q_235_5, q_235_6, q_235_8, q_235_9, q_235_12, q_235_15, q_235_16, q_235_18, q_235_19, q_235_22, q_235_23, q_235_24, q_235_27, q_235_28, q_235_31, q_235_32, q_235_33, q_235_34, q_235_35, q_235_36, q_235_37, q_235_40, q_235_41, q_235_42, q_235_44, q_235_47, q_235_50, q_235_51, q_235_54, q_235_55, q_235_58, q_235_59, q_235_60, q_235_61, q_235_62, q_235_64, q_235_68, q_235_71, q_235_72, q_235_75, q_235_76, q_235_77, q_235_78, q_235_81, q_235_82, q_235_85, q_235_86, q_235_87, q_235_88, q_235_91, q_235_92, q_235_95, q_235_96, q_235_99, q_235_100, q_235_101, q_235_102, q_235_105, q_235_106, q_235_107, q_235_111, q_235_114, q_235_115, q_235_118, q_235_119, q_235_120, q_235_121, q_235_122, q_235_123, q_235_124, q_235_125, q_235_128, q_235_131, q_235_134, q_235_137, q_235_138, q_235_139, q_235_140, q_235_143, q_235_146, q_235_e, va_rf_s, bz_0, bz_1, bz_ok, bb_ok, Nat.add_assoc, w_lt, w_add, w_sub, w_mul, w_div, em_def, w_eq, w_inT, ↓ilt_t, ↓ilt_f, ↓ieq_t, ↓ieq_f, ntT, w_b, w_ix, kx_v, kx_n, kl_n, kl_i, kl_r, kl_o, inA_i, inA_s, inA_b, inA_z, inA_l, inA_0, inA_4, inA_5, inA_6, inA_7, inA_8, inA_9, inA_10, al_0, al_1, al_2, al_4, al_5, al_98, bsP_2, bsP_3, wr_same, wr_wr, wr_ne, up_same, up_ne, Nat.reduceAdd, Int.reduceAdd, Int.reduceSub, Int.reduceMul, Int.reduceLT, Int.reduceLE, Int.reduceEq, Int.reduceNeg, Int.reduceToNat, Nat.reduceLT, Nat.reduceLeDiff, Nat.reduceEqDiff, ↓reduceIte, true_and, and_true, not_true_eq_false, not_false_eq_true, eq_self, or_true, true_or, or_false, false_or, if_true, if_false, Int.toNat_natCast, w_ite, Nat.add_zero, reduceCtorEq, ne_eq, hm, k1, k2, k3, eln2, abg, ech, Int.add_zero]
                  exact beg
                · have hlk : (t.take k).getLast? = some (t.getD (k - 1) 0) := by
                    rw [List.getLast?_eq_getElem?, List.length_take, Nat.min_eq_left (by omega), List.getElem?_take_of_lt (by omega), List.getElem?_eq_getElem (by omega), List.getD_eq_getElem?_getD, List.getElem?_eq_getElem (by omega)]
                    rfl
                  rw [hlk] at hlast
                  have c32 : t.getD (k - 1) 0 = 32 := hlast.mp cc
                  have ech' := aT (k - 1) (by omega)
                  have ep3 : ((bgn rs n : Int) + k - 1).toNat = bgn rs n + (k - 1) := by omega
                  simp (disch := omega) only [q_235_0, q_235_1, q_235_2, q_235_5, q_235_6, q_235_8, q_235_9, q_235_12, q_235_15, q_235_16, q_235_18, q_235_19, q_235_22, q_235_23, q_235_24, q_235_27, q_235_28, q_235_31, q_235_32, q_235_33, q_235_34, q_235_35, q_235_36, q_235_37, q_235_40, q_235_41, q_235_42, q_235_44, q_235_47, q_235_50, q_235_51, q_235_54, q_235_55, q_235_58, q_235_59, q_235_60, q_235_61, q_235_62, q_235_64, q_235_68, q_235_71, q_235_72, q_235_75, q_235_76, q_235_77, q_235_78, q_235_81, q_235_82, q_235_85, q_235_86, q_235_87, q_235_88, q_235_91, q_235_92, q_235_95, q_235_96, q_235_99, q_235_100, q_235_101, q_235_102, q_235_105, q_235_106, q_235_107, q_235_111, q_235_114, q_235_115, q_235_118, q_235_119, q_235_120, q_235_121, q_235_122, q_235_123, q_235_124, q_235_125, q_235_128, q_235_131, q_235_134, q_235_137, q_235_138, q_235_139, q_235_140, q_235_143, q_235_146, q_235_e, va_rf_s, bz_0, bz_1, bz_ok, bb_ok, Nat.add_assoc, w_lt, w_add, w_sub, w_mul, w_div, em_def, w_eq, w_inT, ↓ilt_t, ↓ilt_f, ↓ieq_t, ↓ieq_f, ntT, w_b, w_ix, kx_v, kx_n, kl_n, kl_i, kl_r, kl_o, inA_i, inA_s, inA_b, inA_z, inA_l, inA_0, inA_4, inA_5, inA_6, inA_7, inA_8, inA_9, inA_10, al_0, al_1, al_2, al_4, al_5, al_98, bsP_2, bsP_3, wr_same, wr_wr, wr_ne, up_same, up_ne, Nat.reduceAdd, Int.reduceAdd, Int.reduceSub, Int.reduceMul, Int.reduceLT, Int.reduceLE, Int.reduceEq, Int.reduceNeg, Int.reduceToNat, Nat.reduceLT, Nat.reduceLeDiff, Nat.reduceEqDiff, ↓reduceIte, true_and, and_true, not_true_eq_false, not_false_eq_true, eq_self, or_true, true_or, or_false, false_or, if_true, if_false, Int.toNat_natCast, w_ite, Nat.add_zero, reduceCtorEq, ne_eq, hm, k1, k2, k3, eln2, abg, epk, ech, ep3, ech', c32]
                  exact beg
              · -- a word goes on
                have hcl : lw (cwA (t.take k) []) = [cwA (t.take k) []] := if_neg cc
                have hcl2 : lw (cwA (t.take k) [] ++ [t.getD k 0]) = [cwA (t.take k) [] ++ [t.getD k 0]] := if_neg (by simp)
                have hP3 := hP2 cc
                have hclen : (cwA (t.take k) []).length ≤ 100 := by
                  have : cwA (t.take k) [] ∈ wds (t.take k) := by rw [hwd, hcl]; simp
                  exact hwt.2 _ this
                rw [hcl] at hW2
                rw [hcl2] at jh'
                have hNe : (t.take k).getLast? ≠ none := fun h => by
                  rw [List.getLast?_eq_none_iff] at h
                  rw [h] at cc
                  exact cc rfl
                have c0 : k ≠ 0 := fun h => by rw [h] at hNe; exact hNe rfl
                have hlk : (t.take k).getLast? = some (t.getD (k - 1) 0) := by
                  rw [List.getLast?_eq_getElem?, List.length_take, Nat.min_eq_left (by omega), List.getElem?_take_of_lt (by omega), List.getElem?_eq_getElem (by omega), List.getD_eq_getElem?_getD, List.getElem?_eq_getElem (by omega)]
                  rfl
                rw [hlk] at hlast
                have c32 : t.getD (k - 1) 0 ≠ 32 := fun h => cc (hlast.mpr h)
                have ech' := aT (k - 1) (by omega)
                have hg' := hto.1.get (show k - 1 < t.length by omega)
                have ep3 : ((bgn rs n : Int) + k - 1).toNat = bgn rs n + (k - 1) := by omega
                rw [hcl] at hVl
                generalize cwA (t.take k) [] = c at hW2 jh' hP3 hclen cc hcl
                have hVN : (wl_ rs n ++ dnA (t.take k) []).length ≤ 50049 := by
                  rw [List.length_append, List.length_cons, List.length_nil] at hVl
                  omega
                generalize hVe : wl_ rs n ++ dnA (t.take k) [] = V at hW2 jh' hP3 hVN
                have e49 := hW2.1
                rw [List.length_append, List.length_cons, List.length_nil] at e49
                have e49' : I2 m 49 = w ((V.length : Int) + 1) := e49
                obtain ⟨-, v2, -, -, -⟩ := hW2.2 V.length (by rw [List.length_append, List.length_cons, List.length_nil]; omega)
                rw [gds, if_neg (Nat.lt_irrefl _), if_pos rfl] at v2
                simp (disch := omega) only [q_235_0, q_235_1, q_235_2, q_235_5, q_235_6, q_235_8, q_235_9, q_235_12, q_235_15, q_235_16, q_235_18, q_235_19, q_235_22, q_235_23, q_235_24, q_235_27, q_235_28, q_235_31, q_235_32, q_235_33, q_235_34, q_235_35, q_235_36, q_235_37, q_235_40, q_235_41, q_235_42, q_235_44, q_235_47, q_235_50, q_235_51, q_235_54, q_235_55, q_235_58, q_235_59, q_235_60, q_235_61, q_235_62, q_235_64, q_235_68, q_235_71, q_235_72, q_235_75, q_235_76, q_235_77, q_235_78, q_235_81, q_235_82, q_235_85, q_235_86, q_235_87, q_235_88, q_235_91, q_235_92, q_235_95, q_235_96, q_235_99, q_235_100, q_235_101, q_235_102, q_235_105, q_235_106, q_235_107, q_235_110, q_235_111, q_235_114, q_235_115, q_235_118, q_235_119, q_235_120, q_235_121, q_235_122, q_235_123, q_235_124, q_235_125, q_235_128, q_235_131, q_235_134, q_235_137, q_235_138, q_235_139, q_235_140, q_235_143, q_235_146, q_235_e, va_rf_s, bz_0, bz_1, bz_ok, bb_ok, Nat.add_assoc, w_lt, w_add, w_sub, w_mul, w_div, em_def, w_eq, w_inT, ↓ilt_t, ↓ilt_f, ↓ieq_t, ↓ieq_f, ntT, w_b, w_ix, kx_v, kx_n, kl_n, kl_i, kl_r, kl_o, inA_i, inA_s, inA_b, inA_z, inA_l, inA_0, inA_4, inA_5, inA_6, inA_7, inA_8, inA_9, inA_10, al_0, al_1, al_2, al_4, al_5, al_98, bsP_2, bsP_3, wr_same, wr_wr, wr_ne, up_same, up_ne, Nat.reduceAdd, Int.reduceAdd, Int.reduceSub, Int.reduceMul, Int.reduceLT, Int.reduceLE, Int.reduceEq, Int.reduceNeg, Int.reduceToNat, Nat.reduceLT, Nat.reduceLeDiff, Nat.reduceEqDiff, ↓reduceIte, true_and, and_true, not_true_eq_false, not_false_eq_true, eq_self, or_true, true_or, or_false, false_or, if_true, if_false, Int.toNat_natCast, w_ite, Nat.add_zero, reduceCtorEq, ne_eq, hm, k1, k2, k3, eln2, abg, epk, ech, ep3, ech', e49', Int.add_sub_cancel, w2, v2]
                refine jh' _ P2 _ ⟨fun x h1 h2 => ?_, fun j hj => ?_⟩ (hW2.ext (I2 := _) ?_ ?_ ?_ ?_ ?_ (by rw [hP3]; exact ech) (by omega)) (fun _ => by rw [List.length_append, List.length_cons, List.length_nil]; omega)
                · rw [wr_ne (by omega)]; exact hF2.1 x h1 h2
                · rw [wr_ne (by omega)]; exact hF2.2 j hj
                · rw [wr_ne (by omega)]
                · rw [wr_ne (by omega)]
                · rw [wr_same]; rfl
                · rw [wr_ne (by omega)]
                · rw [wr_ne (by omega)]
        have := lp2 t.length 0 I1 P o3 (by omega) hF (by
          rw [List.take_zero]
          show WdM I1 m (wl_ rs n ++ [] ++ []) P
          rw [List.append_nil, List.append_nil]; exact hW) (fun h => absurd rfl h)
        exact this
  simp (disch := omega) only [q_235_0, q_235_1, q_235_2, q_235_5, q_235_6, q_235_8, q_235_9, q_235_12, q_235_15, q_235_16, q_235_18, q_235_19, q_235_22, q_235_23, q_235_24, q_235_27, q_235_28, q_235_31, q_235_32, q_235_33, q_235_34, q_235_35, q_235_36, q_235_37, q_235_40, q_235_41, q_235_42, q_235_44, q_235_47, q_235_50, q_235_51, q_235_54, q_235_55, q_235_58, q_235_59, q_235_60, q_235_61, q_235_62, q_235_64, q_235_67, q_235_68, q_235_71, q_235_72, q_235_75, q_235_76, q_235_77, q_235_78, q_235_81, q_235_82, q_235_85, q_235_86, q_235_87, q_235_88, q_235_91, q_235_92, q_235_95, q_235_96, q_235_99, q_235_100, q_235_101, q_235_102, q_235_105, q_235_106, q_235_107, q_235_110, q_235_111, q_235_114, q_235_115, q_235_118, q_235_119, q_235_120, q_235_121, q_235_122, q_235_123, q_235_124, q_235_125, q_235_128, q_235_131, q_235_134, q_235_137, q_235_138, q_235_139, q_235_140, q_235_143, q_235_146, q_235_e, va_rf_s, bz_0, bz_1, bz_ok, bb_ok, Nat.add_assoc, w_lt, w_add, w_sub, w_mul, w_div, em_def, w_eq, w_inT, ↓ilt_t, ↓ilt_f, ↓ieq_t, ↓ieq_f, ntT, w_b, w_ix, kx_v, kx_n, kl_n, kl_i, kl_r, kl_o, inA_i, inA_s, inA_b, inA_z, inA_l, inA_0, inA_4, inA_5, inA_6, inA_7, inA_8, inA_9, inA_10, al_0, al_1, al_2, al_4, al_5, al_98, bsP_2, bsP_3, wr_same, wr_wr, wr_ne, up_same, up_ne, Nat.reduceAdd, Int.reduceAdd, Int.reduceSub, Int.reduceMul, Int.reduceLT, Int.reduceLE, Int.reduceEq, Int.reduceNeg, Int.reduceToNat, Nat.reduceLT, Nat.reduceLeDiff, Nat.reduceEqDiff, ↓reduceIte, true_and, and_true, not_true_eq_false, not_false_eq_true, eq_self, or_true, true_or, or_false, false_or, if_true, if_false, Int.toNat_natCast, w_ite, Nat.add_zero, reduceCtorEq, ne_eq, hm]
  refine lp (h + 1) 0 _ (fun _ => 0) none none (by omega) ⟨fun x h1 h2 => wr_ne h1, fun j hj => by rw [wr_same, up_ne hj]⟩ ⟨by rw [wr_same, up_same]; rfl, fun i hi => nomatch hi⟩
end

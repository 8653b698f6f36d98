theorem alF_least {rs : List Rl} {L : List Nat} : ∀ i, i ≤ L.length → (alF rs L i).2.1 = -1 ∨ ∃ j, j < i ∧ (alF rs L i).2.1 = (L.getD j 0 : Int)
  | 0, _ => Or.inl rfl
  | i + 1, h => by
    have ih := alF_least (rs := rs) (L := L) i (by omega)
    rw [alF]
    generalize alF rs L i = s at *
    unfold alS
    dsimp only
    split
    · rcases ih with ih | ⟨j, hj, e⟩
      · exact Or.inl ih
      · exact Or.inr ⟨j, by omega, e⟩
    · exact Or.inr ⟨i, by omega, rfl⟩
theorem alF_bd {rs : List Rl} {L : List Nat} (hL : L.length ≤ 1001) (hn : ∀ n ∈ L, n ≤ 1000) : ∀ i, i ≤ L.length → 0 ≤ (alF rs L i).1 ∧ (alF rs L i).1 ≤ i ∧ -1 ≤ (alF rs L i).2.1 ∧ (alF rs L i).2.1 ≤ 1000 ∧ -1 ≤ (alF rs L i).2.2.1 ∧ (alF rs L i).2.2.1 ≤ 1000 ∧ 0 ≤ (alF rs L i).2.2.2 ∧ (alF rs L i).2.2.2 ≤ i
  | 0, _ => by rw [alF]; decide
  | i + 1, h => by
    have ih := alF_bd hL hn (rs := rs) i (by omega)
    have hg : ∀ j, L.getD j 0 ≤ 1000 := fun j => by
      rw [List.getD_eq_getElem?_getD]
      cases e : L[j]? with
      | none => simp
      | some x => exact hn x (List.mem_of_getElem? e)
    have h1 := hg i
    have h2 := hg (i + 1)
    rw [alF]
    generalize alF rs L i = s at *
    unfold alS
    dsimp only
    split <;> (dsimp only; refine ⟨?_, ?_, ?_, ?_, ?_, ?_, ?_, ?_⟩ <;> (repeat' split) <;> omega)
theorem nodup_get {tx : Nat → List Int} {L : List Nat} (h : L.Pairwise (klt tx)) {i j : Nat} (hij : i < j) (hj : j < L.length) : klt tx (L.getD i 0) (L.getD j 0) := by
  rw [List.getD_eq_getElem?_getD, List.getD_eq_getElem?_getD, List.getElem?_eq_getElem hj, List.getElem?_eq_getElem (by omega)]
  exact List.pairwise_iff_getElem.mp h i j (by omega) hj hij
/-- the ranking's four numbers -/
def AlAt (I : MI) (k : Nat) (s : Int × Int × Int × Int) : Prop := I k 7 = w s.1 ∧ I k 8 = w s.2.1 ∧ I k 9 = w s.2.2.1 ∧ I k 10 = w s.2.2.2
section
variable {d : Nat} {Q : XO → Hp → Prop} {S : SH} {I : MI} {L : ML} {R : MR} {G : MG} {A : Hp}
variable {k : Nat} {rs : List Rl}
theorem sp_53 {L' : List Nat} {fr g : Nat} {s : Int × Int × Int × Int} (hK : RankS S k) (h3 : I k 3 = w L'.length) (hl : L'.length ≤ 1001) (hT : Txt (I (k + 18)) 0 (zl L')) (hn : ∀ n ∈ L', n ≤ 1000) (hfr : fr + g ≤ L'.length) (hg : 1 < g) (hs : I k 7 = w s.1 ∧ I k 8 = w s.2.1 ∧ I k 9 = w s.2.2.1) (hb : 0 ≤ s.1 ∧ s.1 ≤ 1001 ∧ -1 ≤ s.2.1 ∧ s.2.1 ≤ 1000)
    (hQ : ∀ I' : MI, (∀ a, a ≠ k → I' a = I a) → (∀ j, j < 7 → I' k j = I k j) → I' k 7 = w (s.1 + g) → I' k 10 = I k 10 → (I' k 8 = w (if s.2.1 = -1 ∨ (L'.getD fr 0 : Int) < s.2.1 then (L'.getD fr 0 : Int) else s.2.1)) → (I' k 9 = w (if s.2.1 = -1 ∨ (L'.getD fr 0 : Int) < s.2.1 then (L'.getD (fr + 1) 0 : Int) else s.2.2.1)) → Q (.inl none) (mk S I' L R G)) :
    XC (d + 1) 53 [.ref k, .int (w fr), .int (w g)] (mk S I L R G) Q := by
  obtain ⟨a7, a8, a9⟩ := hs
  have hgt : ∀ j, L'.getD j 0 ≤ 1000 := fun j => by
    rw [List.getD_eq_getElem?_getD]
    cases e : L'[j]? with
    | none => simp
    | some x => exact hn x (List.mem_of_getElem? e)
  have h1 := hgt fr
  have s47 := fun {d : Nat} {Q : XO → Hp → Prop} => sp_47 (d := d) (Q := Q) (I := wr I k (up (I k) 7 (w (s.1 + g)))) (L := L) (R := R) (G := G) (i := (fr : Int)) hK (by rw [wr_same, up_ne (by decide)]; exact h3) hl (by rw [wr_ne (by omega)]; exact hT) (by omega) (by omega)
  simp only [if_pos (show 0 ≤ (fr : Int) ∧ (fr : Int) < L'.length by omega), Int.toNat_natCast] at s47
  simp (disch := omega) only [q_53_0, q_53_1, q_53_2, q_53_5, q_53_6, q_53_7, q_53_10, q_53_11, q_53_12, q_53_15, q_53_16, q_53_17, q_53_20, q_53_21, q_53_24, q_53_25, q_53_26, q_53_29, q_53_33, q_53_34, q_53_37, q_53_38, q_53_39, q_53_40, q_53_41, q_53_42, q_53_45, q_53_48, q_53_e, va_rf_s, bz_0, bz_1, bz_ok, bb_ok, Nat.add_assoc, w_lt, w_add, w_sub, w_mul, w_div, em_def, w_eq, w_inT, ↓ilt_t, ↓ilt_f, ↓ieq_t, ↓ieq_f, ntT, w_b, w_ix, kx_v, kx_n, kl_n, kl_i, kl_r, kl_o, inA_i, inA_s, inA_b, inA_z, inA_l, inA_0, inA_4, inA_5, inA_6, inA_7, inA_8, inA_9, inA_10, al_0, al_1, al_2, al_4, al_5, al_98, bsP_2, bsP_3, wr_same, wr_wr, wr_ne, up_same, up_ne, Nat.reduceAdd, Int.reduceAdd, Int.reduceSub, Int.reduceMul, Int.reduceLT, Int.reduceLE, Int.reduceEq, Int.reduceNeg, Int.reduceToNat, Nat.reduceLT, Nat.reduceLeDiff, Nat.reduceEqDiff, ↓reduceIte, true_and, and_true, not_true_eq_false, not_false_eq_true, eq_self, or_true, true_or, or_false, false_or, if_true, if_false, Int.toNat_natCast, w_ite, Nat.add_zero, reduceCtorEq, ne_eq, hK.1, a7, a8, s47]
  have fin : ∀ I1 : MI, I1 = wr I k (up (I k) 7 (w (s.1 + g))) → (s.2.1 = -1 ∨ (L'.getD fr 0 : Int) < s.2.1) → XX (d + 1) 53 32 [some (.ref k), some (.int (w fr)), some (.int (w g)), some (.int (w (L'.getD fr 0 : Int)))] [] (mk S I1 L R G) Q := by
    intro I1 e hc
    subst e
    have s47' := fun {d : Nat} {Q : XO → Hp → Prop} => sp_47 (d := d) (Q := Q) (I := wr I k (up (up (I k) 7 (w (s.1 + g))) 8 (w (L'.getD fr 0 : Int)))) (L := L) (R := R) (G := G) (i := (fr : Int) + 1) hK (by rw [wr_same, up_ne (by decide), up_ne (by decide)]; exact h3) hl (by rw [wr_ne (by omega)]; exact hT) (by omega) (by omega)
    simp only [if_pos (show 0 ≤ (fr : Int) + 1 ∧ (fr : Int) + 1 < L'.length by omega), show ((fr : Int) + 1).toNat = fr + 1 by omega] at s47'
    simp (disch := omega) only [q_53_0, q_53_1, q_53_2, q_53_5, q_53_6, q_53_7, q_53_10, q_53_11, q_53_12, q_53_15, q_53_16, q_53_17, q_53_20, q_53_21, q_53_24, q_53_25, q_53_26, q_53_29, q_53_32, q_53_33, q_53_34, q_53_37, q_53_38, q_53_39, q_53_40, q_53_41, q_53_42, q_53_45, q_53_48, q_53_e, va_rf_s, bz_0, bz_1, bz_ok, bb_ok, Nat.add_assoc, w_lt, w_add, w_sub, w_mul, w_div, em_def, w_eq, w_inT, ↓ilt_t, ↓ilt_f, ↓ieq_t, ↓ieq_f, ntT, w_b, w_ix, kx_v, kx_n, kl_n, kl_i, kl_r, kl_o, inA_i, inA_s, inA_b, inA_z, inA_l, inA_0, inA_4, inA_5, inA_6, inA_7, inA_8, inA_9, inA_10, al_0, al_1, al_2, al_4, al_5, al_98, bsP_2, bsP_3, wr_same, wr_wr, wr_ne, up_same, up_ne, Nat.reduceAdd, Int.reduceAdd, Int.reduceSub, Int.reduceMul, Int.reduceLT, Int.reduceLE, Int.reduceEq, Int.reduceNeg, Int.reduceToNat, Nat.reduceLT, Nat.reduceLeDiff, Nat.reduceEqDiff, ↓reduceIte, true_and, and_true, not_true_eq_false, not_false_eq_true, eq_self, or_true, true_or, or_false, false_or, if_true, if_false, Int.toNat_natCast, w_ite, Nat.add_zero, reduceCtorEq, ne_eq, hK.1, s47']
    refine hQ _ (fun a ha => wr_ne ha) (fun j hj => by rw [wr_same, up_ne (by omega), up_ne (by omega), up_ne (by omega)]) (by rw [wr_same, up_ne (by decide), up_ne (by decide), up_same]) (by rw [wr_same, up_ne (by decide), up_ne (by decide), up_ne (by decide)]) (by rw [wr_same, up_ne (by decide), up_same, if_pos hc]) (by rw [wr_same, up_same, if_pos hc])
  by_cases c1 : s.2.1 = -1
  · rw [if_pos c1]
    exact fin _ rfl (Or.inl c1)
  · rw [if_neg c1]
    by_cases c2 : (L'.getD fr 0 : Int) < s.2.1
    · rw [if_pos c2]
      exact fin _ rfl (Or.inr c2)
    · rw [if_neg c2]
      have hc : ¬ (s.2.1 = -1 ∨ (L'.getD fr 0 : Int) < s.2.1) := by omega
      exact hQ _ (fun a ha => wr_ne ha) (fun j hj => by rw [wr_same, up_ne (by omega)]) (by rw [wr_same, up_same]) (by rw [wr_same, up_ne (by decide)]) (by rw [wr_same, up_ne (by decide), if_neg hc]; exact a8) (by rw [wr_same, up_ne (by decide), if_neg hc]; exact a9)
theorem sp_52 {p : Nat} (hK : RankS S k) (hp : p ≤ 1000) (hM : MInv rs I (k + 1)) (hr : rsOk rs) (hO : Ready rs I k p)
    (hQ : ∀ I' : MI, (∀ a, a ≠ k → I' a = I a) → (∀ j, j < 7 → I' k j = I k j) → AlAt I' k (alF rs (ordl rs p) (ordl rs p).length) → Q (.inl none) (mk S I' L R G)) :
    XC (d + 4) 52 [.ref k] (mk S I L R G) Q := by
  have hL : (ordl rs p).length ≤ 1001 := by rw [ordl_len]; have := saidl_len (rs := rs) (h := p); omega
  have hsrt := ordl_srt (rs := rs) (h := p)
  have hsd := fun n hn => hO.sd (n := n) hp hM hr hn
  have hO' := hO
  obtain ⟨o1, o2, -⟩ := hO
  generalize ordl rs p = L' at *
  have hget : ∀ i, i < L'.length → L'.getD i 0 ∈ L' := fun i hi => by
    rw [List.getD_eq_getElem?_getD, List.getElem?_eq_getElem hi]; exact List.getElem_mem _
  have hbd := alF_bd (rs := rs) hL (fun n hn => (hsd n hn).1)
  have lp : ∀ (j fr i : Nat) (I1 : MI), i + j = L'.length + 1 → fr < i → (i ≤ L'.length ∨ fr = L'.length) → (∀ q, fr ≤ q → q < i → q < L'.length → tx rs (L'.getD q 0) = tx rs (L'.getD fr 0)) → (0 < fr → fr < L'.length → alk rs L' (fr - 1) fr = false) → (∀ a, a ≠ k → I1 a = I a) → (∀ j, j < 7 → I1 k j = I k j) → AlAt I1 k (alF rs L' fr) → XX (d + 4) 52 24 [some (.ref k), some (.int (w fr)), some (.int (w i))] [] (mk S I1 L R G) Q := by
    intro j
    induction j with
    | zero =>
      intro fr i I1 h1 h2 h3 h4 h5 h7 h8 h9
      have e3 : I1 k 3 = w L'.length := by rw [h8 3 (by decide)]; exact o1
      rw [q_52_24]
      simp (disch := omega) only [q_52_0, q_52_1, q_52_2, q_52_5, q_52_6, q_52_7, q_52_10, q_52_11, q_52_12, q_52_15, q_52_16, q_52_17, q_52_20, q_52_21, q_52_22, q_52_23, q_52_25, q_52_26, q_52_29, q_52_32, q_52_33, q_52_34, q_52_37, q_52_40, q_52_41, q_52_42, q_52_43, q_52_46, q_52_47, q_52_48, q_52_51, q_52_54, q_52_57, q_52_60, q_52_61, q_52_62, q_52_65, q_52_66, q_52_67, q_52_70, q_52_71, q_52_72, q_52_73, q_52_74, q_52_77, q_52_78, q_52_79, q_52_80, q_52_81, q_52_82, q_52_85, q_52_86, q_52_87, q_52_90, q_52_93, q_52_e, va_rf_s, bz_0, bz_1, bz_ok, bb_ok, Nat.add_assoc, w_lt, w_add, w_sub, w_mul, w_div, em_def, w_eq, w_inT, ↓ilt_t, ↓ilt_f, ↓ieq_t, ↓ieq_f, ntT, w_b, w_ix, kx_v, kx_n, kl_n, kl_i, kl_r, kl_o, inA_i, inA_s, inA_b, inA_z, inA_l, inA_0, inA_4, inA_5, inA_6, inA_7, inA_8, inA_9, inA_10, al_0, al_1, al_2, al_4, al_5, al_98, bsP_2, bsP_3, wr_same, wr_wr, wr_ne, up_same, up_ne, Nat.reduceAdd, Int.reduceAdd, Int.reduceSub, Int.reduceMul, Int.reduceLT, Int.reduceLE, Int.reduceEq, Int.reduceNeg, Int.reduceToNat, Nat.reduceLT, Nat.reduceLeDiff, Nat.reduceEqDiff, ↓reduceIte, true_and, and_true, not_true_eq_false, not_false_eq_true, eq_self, or_true, true_or, or_false, false_or, if_true, if_false, Int.toNat_natCast, w_ite, Nat.add_zero, reduceCtorEq, ne_eq, hK.1, e3]
      rw [show fr = L'.length by omega] at h9
      exact hQ I1 h7 h8 h9
    | succ j ih =>
      intro fr i I1 h1 h2 h3 h4 h5 h7 h8 h9
      have hil : i ≤ L'.length := by omega
      have e3 : I1 k 3 = w L'.length := by rw [h8 3 (by decide)]; exact o1
      have hb := hbd fr (by omega)
      have hb1 := hget fr (by omega)
      have hT1 : Txt (I1 (k + 18)) 0 (zl L') := by rw [h7 _ (by omega)]; exact o2
      -- a group ends
      have fin : (i < L'.length → ¬ tx rs (L'.getD i 0) = tx rs (L'.getD fr 0)) → XX (d + 4) 52 60 [some (.ref k), some (.int (w fr)), some (.int (w i))] [] (mk S I1 L R G) Q := by
        intro hend
        have hin : ∀ q, fr < q → q < i → alk rs L' (q - 1) q = true := fun q q1 q2 => by
          unfold alk; exact decide_eq_true ((h4 (q - 1) (by omega) (by omega) (by omega)).trans (h4 q (by omega) q2 (by omega)).symm)
        have hout : i < L'.length → alk rs L' (i - 1) i = false := fun hi => by
          unfold alk
          refine decide_eq_false (fun e => hend hi ?_)
          rw [← e]; exact h4 (i - 1) (by omega) (by omega) (by omega)
        have hG := alF_group (rs := rs) h2 hil hin (fun h0 => h5 h0 (by omega)) hout (fun a b ab hb e => by
          have := nodup_get hsrt ab hb
          unfold klt at this
          have e' : tx rs (L'.getD a 0) = tx rs (L'.getD b 0) := by unfold alk at e; exact of_decide_eq_true e
          rw [e'] at this
          have := lexc_neg (tx rs (L'.getD b 0)) (tx rs (L'.getD b 0))
          omega) (by
          rcases alF_least (rs := rs) (L := L') fr (by omega) with e | ⟨q, q1, e⟩
          · rw [e]; omega
          · rw [e]
            intro h
            have := nodup_get hsrt q1 (show fr < L'.length by omega)
            rw [Int.ofNat_inj.mp h] at this
            exact klt.irr this)
        obtain ⟨a7, a8, a9, a10⟩ := h9
        have next := fun I2 h7' h8' h9' => ih i (i + 1) I2 (by omega) (by omega) (by omega) (fun q q1 q2 _ => by rw [show q = i by omega]) (fun _ hi => hout hi) h7' h8' h9'
        simp only [Int.natCast_add, Int.natCast_one] at next
        rw [hG] at next
        unfold alG at next
        generalize hs : alF rs L' fr = s at *
        by_cases c : 1 < i - fr
        · rw [if_pos c] at next
          simp (disch := omega) only [q_52_0, q_52_1, q_52_2, q_52_5, q_52_6, q_52_7, q_52_10, q_52_11, q_52_12, q_52_15, q_52_16, q_52_17, q_52_20, q_52_21, q_52_22, q_52_23, q_52_25, q_52_26, q_52_29, q_52_32, q_52_33, q_52_34, q_52_37, q_52_40, q_52_41, q_52_42, q_52_43, q_52_46, q_52_47, q_52_48, q_52_51, q_52_54, q_52_57, q_52_60, q_52_61, q_52_62, q_52_65, q_52_66, q_52_67, q_52_70, q_52_71, q_52_72, q_52_73, q_52_74, q_52_77, q_52_78, q_52_79, q_52_80, q_52_81, q_52_82, q_52_85, q_52_86, q_52_87, q_52_90, q_52_93, q_52_e, va_rf_s, bz_0, bz_1, bz_ok, bb_ok, Nat.add_assoc, w_lt, w_add, w_sub, w_mul, w_div, em_def, w_eq, w_inT, ↓ilt_t, ↓ilt_f, ↓ieq_t, ↓ieq_f, ntT, w_b, w_ix, kx_v, kx_n, kl_n, kl_i, kl_r, kl_o, inA_i, inA_s, inA_b, inA_z, inA_l, inA_0, inA_4, inA_5, inA_6, inA_7, inA_8, inA_9, inA_10, al_0, al_1, al_2, al_4, al_5, al_98, bsP_2, bsP_3, wr_same, wr_wr, wr_ne, up_same, up_ne, Nat.reduceAdd, Int.reduceAdd, Int.reduceSub, Int.reduceMul, Int.reduceLT, Int.reduceLE, Int.reduceEq, Int.reduceNeg, Int.reduceToNat, Nat.reduceLT, Nat.reduceLeDiff, Nat.reduceEqDiff, ↓reduceIte, true_and, and_true, not_true_eq_false, not_false_eq_true, eq_self, or_true, true_or, or_false, false_or, if_true, if_false, Int.toNat_natCast, w_ite, Nat.add_zero, reduceCtorEq, ne_eq, hK.1, a10]
          have e' : (i : Int) - fr = ((i - fr : Nat) : Int) := by omega
          rw [e']
          refine sp_53 (s := s) (L' := L') hK (by rw [wr_same, up_ne (by decide)]; exact e3) hL (by rw [wr_ne (by omega)]; exact hT1) (fun n hn => (hsd n hn).1) (by omega) c ⟨by rw [wr_same, up_ne (by decide)]; exact a7, by rw [wr_same, up_ne (by decide)]; exact a8, by rw [wr_same, up_ne (by decide)]; exact a9⟩ (by omega) (fun I2 f1 f2 f7 f10 f8 f9 => ?_)
          · simp (disch := omega) only [q_52_0, q_52_1, q_52_2, q_52_5, q_52_6, q_52_7, q_52_10, q_52_11, q_52_12, q_52_15, q_52_16, q_52_17, q_52_20, q_52_21, q_52_22, q_52_23, q_52_25, q_52_26, q_52_29, q_52_32, q_52_33, q_52_34, q_52_37, q_52_40, q_52_41, q_52_42, q_52_43, q_52_46, q_52_47, q_52_48, q_52_51, q_52_54, q_52_57, q_52_60, q_52_61, q_52_62, q_52_65, q_52_66, q_52_67, q_52_70, q_52_71, q_52_72, q_52_73, q_52_74, q_52_77, q_52_78, q_52_79, q_52_80, q_52_81, q_52_82, q_52_85, q_52_86, q_52_87, q_52_90, q_52_93, q_52_e, va_rf_s, bz_0, bz_1, bz_ok, bb_ok, Nat.add_assoc, w_lt, w_add, w_sub, w_mul, w_div, em_def, w_eq, w_inT, ↓ilt_t, ↓ilt_f, ↓ieq_t, ↓ieq_f, ntT, w_b, w_ix, kx_v, kx_n, kl_n, kl_i, kl_r, kl_o, inA_i, inA_s, inA_b, inA_z, inA_l, inA_0, inA_4, inA_5, inA_6, inA_7, inA_8, inA_9, inA_10, al_0, al_1, al_2, al_4, al_5, al_98, bsP_2, bsP_3, wr_same, wr_wr, wr_ne, up_same, up_ne, Nat.reduceAdd, Int.reduceAdd, Int.reduceSub, Int.reduceMul, Int.reduceLT, Int.reduceLE, Int.reduceEq, Int.reduceNeg, Int.reduceToNat, Nat.reduceLT, Nat.reduceLeDiff, Nat.reduceEqDiff, ↓reduceIte, true_and, and_true, not_true_eq_false, not_false_eq_true, eq_self, or_true, true_or, or_false, false_or, if_true, if_false, Int.toNat_natCast, w_ite, Nat.add_zero, reduceCtorEq, ne_eq]
            refine next I2 (fun a ha => by rw [f1 a ha, wr_ne ha, h7 a ha]) (fun j hj => by rw [f2 j hj, wr_same, up_ne (by omega), h8 j hj]) ?_
            rw [wr_same, up_same] at f10
            by_cases c2 : s.2.1 = -1 ∨ (L'.getD fr 0 : Int) < s.2.1
            · rw [if_pos c2]; rw [if_pos c2] at f8 f9; exact ⟨f7, f8, f9, f10⟩
            · rw [if_neg c2]; rw [if_neg c2] at f8 f9; exact ⟨f7, f8, f9, f10⟩
        · rw [if_neg c] at next
          simp (disch := omega) only [q_52_0, q_52_1, q_52_2, q_52_5, q_52_6, q_52_7, q_52_10, q_52_11, q_52_12, q_52_15, q_52_16, q_52_17, q_52_20, q_52_21, q_52_22, q_52_23, q_52_25, q_52_26, q_52_29, q_52_32, q_52_33, q_52_34, q_52_37, q_52_40, q_52_41, q_52_42, q_52_43, q_52_46, q_52_47, q_52_48, q_52_51, q_52_54, q_52_57, q_52_60, q_52_61, q_52_62, q_52_65, q_52_66, q_52_67, q_52_70, q_52_71, q_52_72, q_52_73, q_52_74, q_52_77, q_52_78, q_52_79, q_52_80, q_52_81, q_52_82, q_52_85, q_52_86, q_52_87, q_52_90, q_52_93, q_52_e, va_rf_s, bz_0, bz_1, bz_ok, bb_ok, Nat.add_assoc, w_lt, w_add, w_sub, w_mul, w_div, em_def, w_eq, w_inT, ↓ilt_t, ↓ilt_f, ↓ieq_t, ↓ieq_f, ntT, w_b, w_ix, kx_v, kx_n, kl_n, kl_i, kl_r, kl_o, inA_i, inA_s, inA_b, inA_z, inA_l, inA_0, inA_4, inA_5, inA_6, inA_7, inA_8, inA_9, inA_10, al_0, al_1, al_2, al_4, al_5, al_98, bsP_2, bsP_3, wr_same, wr_wr, wr_ne, up_same, up_ne, Nat.reduceAdd, Int.reduceAdd, Int.reduceSub, Int.reduceMul, Int.reduceLT, Int.reduceLE, Int.reduceEq, Int.reduceNeg, Int.reduceToNat, Nat.reduceLT, Nat.reduceLeDiff, Nat.reduceEqDiff, ↓reduceIte, true_and, and_true, not_true_eq_false, not_false_eq_true, eq_self, or_true, true_or, or_false, false_or, if_true, if_false, Int.toNat_natCast, w_ite, Nat.add_zero, reduceCtorEq, ne_eq, hK.1, a10]
          refine next _ (fun a ha => by rw [wr_ne ha, h7 a ha]) (fun j hj => by rw [wr_same, up_ne (by omega), h8 j hj]) ⟨?_, ?_, ?_, ?_⟩
          · rw [wr_same, up_ne (by decide)]; exact a7
          · rw [wr_same, up_ne (by decide)]; exact a8
          · rw [wr_same, up_ne (by decide)]; exact a9
          · rw [wr_same, up_same]
      rw [q_52_24]
      by_cases c : i < L'.length
      · have hb2 := hget i c
        have s47 := fun {d : Nat} {Q : XO → Hp → Prop} => sp_47 (d := d) (Q := Q) (I := I1) (L := L) (R := R) (G := G) (i := (fr : Int)) hK e3 hL hT1 (by omega) (by omega)
        have s47' := fun {d : Nat} {Q : XO → Hp → Prop} => sp_47 (d := d) (Q := Q) (I := I1) (L := L) (R := R) (G := G) (i := (i : Int)) hK e3 hL hT1 (by omega) (by omega)
        simp only [if_pos (show 0 ≤ (fr : Int) ∧ (fr : Int) < L'.length by omega), Int.toNat_natCast] at s47
        simp only [if_pos (show 0 ≤ (i : Int) ∧ (i : Int) < L'.length by omega), Int.toNat_natCast] at s47'
        have d1 := hsd _ hb1
        have d2 := hsd _ hb2
        have s46 := fun {d : Nat} {Q : XO → Hp → Prop} => sp_46 (d := d) (Q := Q) (I := I1) (L := L) (R := R) (G := G) hK d1.1 d2.1 (d1.2.congr (h7 _ (by omega)) (h7 _ (by omega)) (h7 _ (by omega))) (d2.2.congr (h7 _ (by omega)) (h7 _ (by omega)) (h7 _ (by omega)))
        have hlb := lexc_bd (tx rs (L'.getD fr 0)) (tx rs (L'.getD i 0))
        have hl1 := d1.2.2.2.1
        have hl2 := d2.2.2.2.1
        have h0 := lexc_0 d1.2.2.2.2.2.bd d2.2.2.2.2.2.bd
        simp (disch := omega) only [q_52_0, q_52_1, q_52_2, q_52_5, q_52_6, q_52_7, q_52_10, q_52_11, q_52_12, q_52_15, q_52_16, q_52_17, q_52_20, q_52_21, q_52_22, q_52_23, q_52_25, q_52_26, q_52_29, q_52_32, q_52_33, q_52_34, q_52_37, q_52_40, q_52_41, q_52_42, q_52_43, q_52_46, q_52_47, q_52_48, q_52_51, q_52_54, q_52_57, q_52_61, q_52_62, q_52_65, q_52_66, q_52_67, q_52_70, q_52_71, q_52_72, q_52_73, q_52_74, q_52_77, q_52_78, q_52_79, q_52_80, q_52_81, q_52_82, q_52_85, q_52_86, q_52_87, q_52_90, q_52_93, q_52_e, va_rf_s, bz_0, bz_1, bz_ok, bb_ok, Nat.add_assoc, w_lt, w_add, w_sub, w_mul, w_div, em_def, w_eq, w_inT, ↓ilt_t, ↓ilt_f, ↓ieq_t, ↓ieq_f, ntT, w_b, w_ix, kx_v, kx_n, kl_n, kl_i, kl_r, kl_o, inA_i, inA_s, inA_b, inA_z, inA_l, inA_0, inA_4, inA_5, inA_6, inA_7, inA_8, inA_9, inA_10, al_0, al_1, al_2, al_4, al_5, al_98, bsP_2, bsP_3, wr_same, wr_wr, wr_ne, up_same, up_ne, Nat.reduceAdd, Int.reduceAdd, Int.reduceSub, Int.reduceMul, Int.reduceLT, Int.reduceLE, Int.reduceEq, Int.reduceNeg, Int.reduceToNat, Nat.reduceLT, Nat.reduceLeDiff, Nat.reduceEqDiff, ↓reduceIte, true_and, and_true, not_true_eq_false, not_false_eq_true, eq_self, or_true, true_or, or_false, false_or, if_true, if_false, Int.toNat_natCast, w_ite, Nat.add_zero, reduceCtorEq, ne_eq, hK.1, e3, s47, s47', s46]
        by_cases c2 : lexc (tx rs (L'.getD fr 0)) (tx rs (L'.getD i 0)) = 0
        · rw [if_pos c2]
          have := ih fr (i + 1) I1 (by omega) (by omega) (by omega) (fun q q1 q2 q3 => by
            by_cases cq : q = i
            · subst cq; exact (h0.mp c2).symm
            · exact h4 q q1 (by omega) q3) h5 h7 h8 h9
          simp only [Int.natCast_add, Int.natCast_one] at this
          exact this
        · rw [if_neg c2]
          exact fin (fun _ e => c2 (h0.mpr e.symm))
      · simp (disch := omega) only [q_52_0, q_52_1, q_52_2, q_52_5, q_52_6, q_52_7, q_52_10, q_52_11, q_52_12, q_52_15, q_52_16, q_52_17, q_52_20, q_52_21, q_52_22, q_52_23, q_52_25, q_52_26, q_52_29, q_52_32, q_52_33, q_52_34, q_52_37, q_52_40, q_52_41, q_52_42, q_52_43, q_52_46, q_52_47, q_52_48, q_52_51, q_52_54, q_52_57, q_52_61, q_52_62, q_52_65, q_52_66, q_52_67, q_52_70, q_52_71, q_52_72, q_52_73, q_52_74, q_52_77, q_52_78, q_52_79, q_52_80, q_52_81, q_52_82, q_52_85, q_52_86, q_52_87, q_52_90, q_52_93, q_52_e, va_rf_s, bz_0, bz_1, bz_ok, bb_ok, Nat.add_assoc, w_lt, w_add, w_sub, w_mul, w_div, em_def, w_eq, w_inT, ↓ilt_t, ↓ilt_f, ↓ieq_t, ↓ieq_f, ntT, w_b, w_ix, kx_v, kx_n, kl_n, kl_i, kl_r, kl_o, inA_i, inA_s, inA_b, inA_z, inA_l, inA_0, inA_4, inA_5, inA_6, inA_7, inA_8, inA_9, inA_10, al_0, al_1, al_2, al_4, al_5, al_98, bsP_2, bsP_3, wr_same, wr_wr, wr_ne, up_same, up_ne, Nat.reduceAdd, Int.reduceAdd, Int.reduceSub, Int.reduceMul, Int.reduceLT, Int.reduceLE, Int.reduceEq, Int.reduceNeg, Int.reduceToNat, Nat.reduceLT, Nat.reduceLeDiff, Nat.reduceEqDiff, ↓reduceIte, true_and, and_true, not_true_eq_false, not_false_eq_true, eq_self, or_true, true_or, or_false, false_or, if_true, if_false, Int.toNat_natCast, w_ite, Nat.add_zero, reduceCtorEq, ne_eq, hK.1, e3]
        exact fin (fun h => absurd h c)
  simp (disch := omega) only [q_52_0, q_52_1, q_52_2, q_52_5, q_52_6, q_52_7, q_52_10, q_52_11, q_52_12, q_52_15, q_52_16, q_52_17, q_52_20, q_52_21, q_52_22, q_52_23, q_52_25, q_52_26, q_52_29, q_52_32, q_52_33, q_52_34, q_52_37, q_52_40, q_52_41, q_52_42, q_52_43, q_52_46, q_52_47, q_52_48, q_52_51, q_52_54, q_52_57, q_52_60, q_52_61, q_52_62, q_52_65, q_52_66, q_52_67, q_52_70, q_52_71, q_52_72, q_52_73, q_52_74, q_52_77, q_52_78, q_52_79, q_52_80, q_52_81, q_52_82, q_52_85, q_52_86, q_52_87, q_52_90, q_52_93, q_52_e, va_rf_s, bz_0, bz_1, bz_ok, bb_ok, Nat.add_assoc, w_lt, w_add, w_sub, w_mul, w_div, em_def, w_eq, w_inT, ↓ilt_t, ↓ilt_f, ↓ieq_t, ↓ieq_f, ntT, w_b, w_ix, kx_v, kx_n, kl_n, kl_i, kl_r, kl_o, inA_i, inA_s, inA_b, inA_z, inA_l, inA_0, inA_4, inA_5, inA_6, inA_7, inA_8, inA_9, inA_10, al_0, al_1, al_2, al_4, al_5, al_98, bsP_2, bsP_3, wr_same, wr_wr, wr_ne, up_same, up_ne, Nat.reduceAdd, Int.reduceAdd, Int.reduceSub, Int.reduceMul, Int.reduceLT, Int.reduceLE, Int.reduceEq, Int.reduceNeg, Int.reduceToNat, Nat.reduceLT, Nat.reduceLeDiff, Nat.reduceEqDiff, ↓reduceIte, true_and, and_true, not_true_eq_false, not_false_eq_true, eq_self, or_true, true_or, or_false, false_or, if_true, if_false, Int.toNat_natCast, w_ite, Nat.add_zero, reduceCtorEq, ne_eq, hK.1]
  have := lp L'.length 0 1 (wr I k (up (up (up (up (I k) 7 (w 0)) 8 (w (-1))) 9 (w (-1))) 10 (w 0))) (by omega) (by decide) (by omega) (fun q q1 q2 _ => by rw [show q = 0 by omega]) (fun h => by omega) (fun a ha => wr_ne ha) (fun j hj => by rw [wr_same, up_ne (by omega), up_ne (by omega), up_ne (by omega), up_ne (by omega)]) ⟨by rw [wr_same, up_ne (by decide), up_ne (by decide), up_ne (by decide), up_same]; rfl, by rw [wr_same, up_ne (by decide), up_ne (by decide), up_same]; rfl, by rw [wr_same, up_ne (by decide), up_same]; rfl, by rw [wr_same, up_same]; rfl⟩
  simp only [Int.natCast_zero, Int.natCast_one] at this
  exact this
end

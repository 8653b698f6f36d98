/-! what is found; what is alike -/
theorem rd_len {rs : List Rl} {p : Nat} {t : List Int} (hr : rsOk rs) (ht : ∀ b ∈ t, -128 ≤ b ∧ b < 128) : (rd rs p t).length = plc (tx rs) (ordl rs p) t true - plc (tx rs) (ordl rs p) t false := by
  rw [← rd_block hr ht, List.length_take, List.length_drop]
  have := plc_le (tx := tx rs) (L := ordl rs p) (t := t) (beh := true)
  omega
theorem rd_fst {rs : List Rl} {p : Nat} {t : List Int} (hr : rsOk rs) (ht : ∀ b ∈ t, -128 ≤ b ∧ b < 128) : fstz (rd rs p t) = if plc (tx rs) (ordl rs p) t false < plc (tx rs) (ordl rs p) t true then ((ordl rs p).getD (plc (tx rs) (ordl rs p) t false) 0 : Int) else -1 := by
  have hl := rd_len (p := p) hr ht
  have hle := plc_le (tx := tx rs) (L := ordl rs p) (t := t) (beh := true)
  by_cases c : plc (tx rs) (ordl rs p) t false < plc (tx rs) (ordl rs p) t true
  · rw [if_pos c, ← rd_block hr ht]
    rw [List.drop_eq_getElem_cons (by omega), List.take_cons (by omega), List.getD_eq_getElem?_getD, List.getElem?_eq_getElem (by omega)]
    rfl
  · rw [if_neg c, List.eq_nil_of_length_eq_zero (by omega : (rd rs p t).length = 0)]
    rfl
theorem rd_lst {rs : List Rl} {p : Nat} {t : List Int} (hr : rsOk rs) (ht : ∀ b ∈ t, -128 ≤ b ∧ b < 128) : lstz (rd rs p t) = if plc (tx rs) (ordl rs p) t false < plc (tx rs) (ordl rs p) t true then ((ordl rs p).getD (plc (tx rs) (ordl rs p) t true - 1) 0 : Int) else -1 := by
  have hl := rd_len (p := p) hr ht
  have hle := plc_le (tx := tx rs) (L := ordl rs p) (t := t) (beh := true)
  by_cases c : plc (tx rs) (ordl rs p) t false < plc (tx rs) (ordl rs p) t true
  · rw [if_pos c]
    have e : (rd rs p t).getLast? = some ((ordl rs p)[plc (tx rs) (ordl rs p) t true - 1]'(by omega)) := by
      rw [List.getLast?_eq_getElem?, hl, ← rd_block hr ht, List.getElem?_take_of_lt (by omega), List.getElem?_drop, show plc (tx rs) (ordl rs p) t false + (plc (tx rs) (ordl rs p) t true - plc (tx rs) (ordl rs p) t false - 1) = plc (tx rs) (ordl rs p) t true - 1 by omega]
      exact List.getElem?_eq_getElem _
    unfold lstz
    rw [e, List.getD_eq_getElem?_getD, List.getElem?_eq_getElem (by omega)]
    rfl
  · rw [if_neg c, List.eq_nil_of_length_eq_zero (by omega : (rd rs p t).length = 0)]
    rfl
def Found (rs : List Rl) (I : MI) (k p : Nat) (t : List Int) : Prop := I k 5 = w (plc (tx rs) (ordl rs p) t false) ∧ I k 6 = w (plc (tx rs) (ordl rs p) t true)
/-- what alike() counts, after the first of the order -/
def alk (rs : List Rl) (L : List Nat) (i j : Nat) : Bool := decide (tx rs (L.getD i 0) = tx rs (L.getD j 0))
def alS (rs : List Rl) (L : List Nat) (i : Nat) (s : Int × Int × Int × Int) : Int × Int × Int × Int :=
  let ahead := decide (0 < i) && alk rs L (i - 1) i
  let behind := decide (i + 1 < L.length) && alk rs L i (i + 1)
  let so := s.1 + (if ahead || behind then 1 else 0)
  let un := s.2.2.2 + (if ahead then 0 else 1)
  if ahead || !behind || (decide (s.2.1 ≠ -1) && decide (s.2.1 < (L.getD i 0 : Int))) then (so, s.2.1, s.2.2.1, un) else (so, (L.getD i 0 : Int), (L.getD (i + 1) 0 : Int), un)
def alF (rs : List Rl) (L : List Nat) : Nat → Int × Int × Int × Int
  | 0 => (0, -1, -1, 0)
  | i + 1 => alS rs L i (alF rs L i)
/-- a whole group at once -/
def alG (L : List Nat) (fr g : Nat) (s : Int × Int × Int × Int) : Int × Int × Int × Int :=
  if 1 < g then (if s.2.1 = -1 ∨ (L.getD fr 0 : Int) < s.2.1 then (s.1 + g, (L.getD fr 0 : Int), (L.getD (fr + 1) 0 : Int), s.2.2.2 + 1) else (s.1 + g, s.2.1, s.2.2.1, s.2.2.2 + 1)) else (s.1, s.2.1, s.2.2.1, s.2.2.2 + 1)
theorem alF_group {rs : List Rl} {L : List Nat} {fr i : Nat} (h1 : fr < i) (h2 : i ≤ L.length) (hin : ∀ j, fr < j → j < i → alk rs L (j - 1) j = true) (hfr : 0 < fr → alk rs L (fr - 1) fr = false) (hi : i < L.length → alk rs L (i - 1) i = false) (hL : ∀ a b, a < b → b < L.length → alk rs L a b = true → L.getD a 0 < L.getD b 0) (hne : (alF rs L fr).2.1 ≠ (L.getD fr 0 : Int)) : alF rs L i = alG L fr (i - fr) (alF rs L fr) := by
  have first : alF rs L (fr + 1) = if fr + 1 < i then (if (alF rs L fr).2.1 = -1 ∨ (L.getD fr 0 : Int) < (alF rs L fr).2.1 then ((alF rs L fr).1 + 1, (L.getD fr 0 : Int), (L.getD (fr + 1) 0 : Int), (alF rs L fr).2.2.2 + 1) else ((alF rs L fr).1 + 1, (alF rs L fr).2.1, (alF rs L fr).2.2.1, (alF rs L fr).2.2.2 + 1)) else ((alF rs L fr).1, (alF rs L fr).2.1, (alF rs L fr).2.2.1, (alF rs L fr).2.2.2 + 1) := by
    rw [alF]
    generalize alF rs L fr = s at *
    have ha : (decide (0 < fr) && alk rs L (fr - 1) fr) = false := by
      by_cases c : 0 < fr
      · rw [hfr c, Bool.and_false]
      · rw [decide_eq_false c]; rfl
    have hb : (decide (fr + 1 < L.length) && alk rs L fr (fr + 1)) = decide (fr + 1 < i) := by
      by_cases c : fr + 1 < i
      · have := hin (fr + 1) (by omega) c
        rw [Nat.add_sub_cancel] at this
        rw [this, decide_eq_true (by omega), decide_eq_true c]; rfl
      · have : fr + 1 = i := by omega
        rw [decide_eq_false c]
        by_cases c2 : i < L.length
        · have := hi c2
          subst i
          rw [Nat.add_sub_cancel] at this
          rw [this, Bool.and_false]
        · rw [decide_eq_false (by omega)]; rfl
    unfold alS
    simp only [ha, hb]
    by_cases c : fr + 1 < i
    · rw [decide_eq_true c, if_pos c]
      simp only [Bool.false_or, Bool.not_true, if_true, Bool.false_eq_true, if_false]
      by_cases c2 : s.2.1 = -1 ∨ (L.getD fr 0 : Int) < s.2.1
      · rw [if_pos c2, if_neg]
        rcases c2 with c2 | c2
        · simp [c2]
        · simp only [Bool.and_eq_true, decide_eq_true_eq]; omega
      · rw [if_neg c2, if_pos]
        simp only [Bool.and_eq_true, decide_eq_true_eq]; omega
    · rw [decide_eq_false c, if_neg c]
      simp
  have rest : ∀ m, fr + 1 + m ≤ i → alF rs L (fr + 1 + m) = ((alF rs L (fr + 1)).1 + m, (alF rs L (fr + 1)).2.1, (alF rs L (fr + 1)).2.2.1, (alF rs L (fr + 1)).2.2.2) := by
    intro m
    induction m with
    | zero => intro _; simp
    | succ m ih =>
      intro hm
      have := ih (by omega)
      rw [show fr + 1 + (m + 1) = fr + 1 + m + 1 by omega, alF, this]
      have ha : (decide (0 < fr + 1 + m) && alk rs L (fr + 1 + m - 1) (fr + 1 + m)) = true := by
        rw [hin (fr + 1 + m) (by omega) (by omega), decide_eq_true (by omega)]; rfl
      unfold alS
      simp only [ha, Bool.true_or, if_true]
      simp
      omega
  have := rest (i - fr - 1) (by omega)
  rw [show fr + 1 + (i - fr - 1) = i by omega, first] at this
  rw [this]
  unfold alG
  by_cases c : fr + 1 < i
  · rw [if_pos c, if_pos (by omega : 1 < i - fr)]
    by_cases c2 : (alF rs L fr).2.1 = -1 ∨ (L.getD fr 0 : Int) < (alF rs L fr).2.1
    · rw [if_pos c2, if_pos c2]
      congr 1
      dsimp only
      omega
    · rw [if_neg c2, if_neg c2]
      congr 1
      dsimp only
      omega
  · rw [if_neg c, if_neg (by omega : ¬ 1 < i - fr)]
    congr 1
    dsimp only
    omega
section
variable {d : Nat} {Q : XO → Hp → Prop} {S : SH} {I : MI} {L : ML} {R : MR} {G : MG} {A : Hp}
variable {k : Nat} {rs : List Rl}
theorem sp_48 {a p q n1 : Nat} {t : List Int} (hK : RankS S k) (hp : p ≤ 1000) (hM : MInv rs I (k + 1)) (hr : rsOk rs) (hO : Ready rs I k p) (ha : S a = some (.inl (2, n1))) (hn1 : n1 < 2147483648) (hq : q + t.length ≤ n1) (ht : Txt (I a) q t) (htl : t.length ≤ 1000) (htb : ∀ b ∈ t, -128 ≤ b ∧ b < 128) (hak : a ≠ k)
    (hQ : ∀ I' : MI, (∀ a, a ≠ k → I' a = I a) → (∀ j, j ≠ 5 → j ≠ 6 → I' k j = I k j) → Found rs I' k p t → Q (.inl (some (.int (w (rd rs p t).length)))) (mk S I' L R G)) :
    XC (d + 4) 48 [.ref k, .ref a, .int (w q), .int (w t.length)] (mk S I L R G) Q := by
  have hL : (ordl rs p).length ≤ 1001 := by rw [ordl_len]; have := saidl_len (rs := rs) (h := p); omega
  have hlen := rd_len (p := p) hr htb
  have hm := plc_mono (t := t) (ordl_srt (rs := rs) (h := p))
  have hle := plc_le (tx := tx rs) (L := ordl rs p) (t := t) (beh := true)
  have s0 := fun {d : Nat} {Q : XO → Hp → Prop} => sp_51 (d := d) (Q := Q) (L := L) (R := R) (G := G) (beh := false) hK hO.1 hL hO.2.1 (fun n hn => hO.sd hp hM hr hn) ordl_srt ha hn1 hq ht htl
  have s1 := fun {d : Nat} {Q : XO → Hp → Prop} => sp_51 (d := d) (Q := Q) (I := wr I k (up (I k) 5 (w (plc (tx rs) (ordl rs p) t false)))) (L := L) (R := R) (G := G) (beh := true) hK (by rw [wr_same, up_ne (by decide)]; exact hO.1) hL (by rw [wr_ne (by omega)]; exact hO.2.1) (fun n hn => ⟨(hO.sd hp hM hr hn).1, (hO.sd hp hM hr hn).2.congr (wr_ne (by omega)) (wr_ne (by omega)) (wr_ne (by omega))⟩) ordl_srt ha hn1 hq (by rw [wr_ne hak]; exact ht) htl
  simp only [bz_f] at s0
  simp only [bz_t] at s1
  simp (disch := omega) only [q_48_0, q_48_1, q_48_2, q_48_3, q_48_4, q_48_5, q_48_6, q_48_9, q_48_12, q_48_13, q_48_14, q_48_15, q_48_16, q_48_17, q_48_18, q_48_21, q_48_24, q_48_25, q_48_28, q_48_29, q_48_32, q_48_33, q_48_e, va_rf_s, bz_0, bz_1, bz_ok, bb_ok, Nat.add_assoc, w_lt, w_add, w_sub, w_mul, w_div, em_def, w_eq, w_inT, ↓ilt_t, ↓ilt_f, ↓ieq_t, ↓ieq_f, ntT, w_b, w_ix, kx_v, kx_n, kl_n, kl_i, kl_r, kl_o, inA_i, inA_s, inA_b, inA_z, inA_l, inA_0, inA_4, inA_5, inA_6, inA_7, inA_8, inA_9, inA_10, al_0, al_1, al_2, al_4, al_5, al_98, bsP_2, bsP_3, wr_same, wr_wr, wr_ne, up_same, up_ne, Nat.reduceAdd, Int.reduceAdd, Int.reduceSub, Int.reduceMul, Int.reduceLT, Int.reduceLE, Int.reduceEq, Int.reduceNeg, Int.reduceToNat, Nat.reduceLT, Nat.reduceLeDiff, Nat.reduceEqDiff, ↓reduceIte, true_and, and_true, not_true_eq_false, not_false_eq_true, eq_self, or_true, true_or, or_false, false_or, if_true, if_false, Int.toNat_natCast, w_ite, Nat.add_zero, reduceCtorEq, ne_eq, hK.1, s0, s1]
  have := hQ _ (fun a ha => wr_ne ha) (fun j h5 h6 => by rw [wr_same, up_ne h6, up_ne h5]) (show Found rs (wr I k (up (up (I k) 5 (w (plc (tx rs) (ordl rs p) t false))) 6 (w (plc (tx rs) (ordl rs p) t true)))) k p t from ⟨by rw [wr_same, up_ne (by decide), up_same], by rw [wr_same, up_same]⟩)
  rw [hlen] at this
  rw [show ((plc (tx rs) (ordl rs p) t true : Nat) : Int) - (plc (tx rs) (ordl rs p) t false : Nat) = ((plc (tx rs) (ordl rs p) t true - plc (tx rs) (ordl rs p) t false : Nat) : Int) by omega]
  exact this
theorem sp_49 {p : Nat} {t : List Int} (hK : RankS S k) (hp : p ≤ 1000) (hr : rsOk rs) (hO : Ready rs I k p) (hF : Found rs I k p t) (htb : ∀ b ∈ t, -128 ≤ b ∧ b < 128) : XC (d + 1) 49 [.ref k] (mk S I L R G) Q ↔ Q (.inl (some (.int (w (fstz (rd rs p t)))))) (mk S I L R G) := by
  have hL : (ordl rs p).length ≤ 1001 := by rw [ordl_len]; have := saidl_len (rs := rs) (h := p); omega
  have hm := plc_mono (t := t) (ordl_srt (rs := rs) (h := p))
  have hle := plc_le (tx := tx rs) (L := ordl rs p) (t := t) (beh := true)
  have s47 := fun {d : Nat} {Q : XO → Hp → Prop} => sp_47 (d := d) (Q := Q) (L := L) (R := R) (G := G) (i := (plc (tx rs) (ordl rs p) t false : Nat)) hK hO.1 hL hO.2.1 (by omega) (by omega)
  rw [rd_fst hr htb]
  obtain ⟨f1, f2⟩ := hF
  simp (disch := omega) only [q_49_0, q_49_1, q_49_4, q_49_5, q_49_8, q_49_11, q_49_12, q_49_13, q_49_19, q_49_22, q_49_23, q_49_e, va_rf_s, bz_0, bz_1, bz_ok, bb_ok, Nat.add_assoc, w_lt, w_add, w_sub, w_mul, w_div, em_def, w_eq, w_inT, ↓ilt_t, ↓ilt_f, ↓ieq_t, ↓ieq_f, ntT, w_b, w_ix, kx_v, kx_n, kl_n, kl_i, kl_r, kl_o, inA_i, inA_s, inA_b, inA_z, inA_l, inA_0, inA_4, inA_5, inA_6, inA_7, inA_8, inA_9, inA_10, al_0, al_1, al_2, al_4, al_5, al_98, bsP_2, bsP_3, wr_same, wr_wr, wr_ne, up_same, up_ne, Nat.reduceAdd, Int.reduceAdd, Int.reduceSub, Int.reduceMul, Int.reduceLT, Int.reduceLE, Int.reduceEq, Int.reduceNeg, Int.reduceToNat, Nat.reduceLT, Nat.reduceLeDiff, Nat.reduceEqDiff, ↓reduceIte, true_and, and_true, not_true_eq_false, not_false_eq_true, eq_self, or_true, true_or, or_false, false_or, if_true, if_false, Int.toNat_natCast, w_ite, Nat.add_zero, reduceCtorEq, ne_eq, hK.1, f1, f2]
  by_cases c : plc (tx rs) (ordl rs p) t false < plc (tx rs) (ordl rs p) t true
  · rw [if_pos c, if_pos (by omega), q_49_16, s47, if_pos (by omega)]
    simp (disch := omega) only [q_49_0, q_49_1, q_49_4, q_49_5, q_49_8, q_49_11, q_49_12, q_49_13, q_49_16, q_49_19, q_49_22, q_49_23, q_49_e, va_rf_s, bz_0, bz_1, bz_ok, bb_ok, Nat.add_assoc, w_lt, w_add, w_sub, w_mul, w_div, em_def, w_eq, w_inT, ↓ilt_t, ↓ilt_f, ↓ieq_t, ↓ieq_f, ntT, w_b, w_ix, kx_v, kx_n, kl_n, kl_i, kl_r, kl_o, inA_i, inA_s, inA_b, inA_z, inA_l, inA_0, inA_4, inA_5, inA_6, inA_7, inA_8, inA_9, inA_10, al_0, al_1, al_2, al_4, al_5, al_98, bsP_2, bsP_3, wr_same, wr_wr, wr_ne, up_same, up_ne, Nat.reduceAdd, Int.reduceAdd, Int.reduceSub, Int.reduceMul, Int.reduceLT, Int.reduceLE, Int.reduceEq, Int.reduceNeg, Int.reduceToNat, Nat.reduceLT, Nat.reduceLeDiff, Nat.reduceEqDiff, ↓reduceIte, true_and, and_true, not_true_eq_false, not_false_eq_true, eq_self, or_true, true_or, or_false, false_or, if_true, if_false, Int.toNat_natCast, w_ite, Nat.add_zero, reduceCtorEq, ne_eq, hK.1]
  · rw [if_neg c, if_neg (by omega)]
theorem sp_50 {p : Nat} {t : List Int} (hK : RankS S k) (hp : p ≤ 1000) (hr : rsOk rs) (hO : Ready rs I k p) (hF : Found rs I k p t) (htb : ∀ b ∈ t, -128 ≤ b ∧ b < 128) : XC (d + 1) 50 [.ref k] (mk S I L R G) Q ↔ Q (.inl (some (.int (w (lstz (rd rs p t)))))) (mk S I L R G) := by
  have hL : (ordl rs p).length ≤ 1001 := by rw [ordl_len]; have := saidl_len (rs := rs) (h := p); omega
  have hm := plc_mono (t := t) (ordl_srt (rs := rs) (h := p))
  have hle := plc_le (tx := tx rs) (L := ordl rs p) (t := t) (beh := true)
  have s47 := fun {d : Nat} {Q : XO → Hp → Prop} => sp_47 (d := d) (Q := Q) (L := L) (R := R) (G := G) (i := (plc (tx rs) (ordl rs p) t true : Nat) - 1) hK hO.1 hL hO.2.1 (by omega) (by omega)
  rw [rd_lst hr htb]
  obtain ⟨f1, f2⟩ := hF
  simp (disch := omega) only [q_50_0, q_50_1, q_50_4, q_50_5, q_50_8, q_50_11, q_50_12, q_50_13, q_50_16, q_50_17, q_50_21, q_50_24, q_50_25, q_50_e, va_rf_s, bz_0, bz_1, bz_ok, bb_ok, Nat.add_assoc, w_lt, w_add, w_sub, w_mul, w_div, em_def, w_eq, w_inT, ↓ilt_t, ↓ilt_f, ↓ieq_t, ↓ieq_f, ntT, w_b, w_ix, kx_v, kx_n, kl_n, kl_i, kl_r, kl_o, inA_i, inA_s, inA_b, inA_z, inA_l, inA_0, inA_4, inA_5, inA_6, inA_7, inA_8, inA_9, inA_10, al_0, al_1, al_2, al_4, al_5, al_98, bsP_2, bsP_3, wr_same, wr_wr, wr_ne, up_same, up_ne, Nat.reduceAdd, Int.reduceAdd, Int.reduceSub, Int.reduceMul, Int.reduceLT, Int.reduceLE, Int.reduceEq, Int.reduceNeg, Int.reduceToNat, Nat.reduceLT, Nat.reduceLeDiff, Nat.reduceEqDiff, ↓reduceIte, true_and, and_true, not_true_eq_false, not_false_eq_true, eq_self, or_true, true_or, or_false, false_or, if_true, if_false, Int.toNat_natCast, w_ite, Nat.add_zero, reduceCtorEq, ne_eq, hK.1, f1, f2]
  by_cases c : plc (tx rs) (ordl rs p) t false < plc (tx rs) (ordl rs p) t true
  · rw [if_pos c, if_pos (by omega), q_50_18, s47, if_pos (by omega)]
    rw [show ((plc (tx rs) (ordl rs p) t true : Nat) - 1 : Int).toNat = plc (tx rs) (ordl rs p) t true - 1 by omega]
    simp (disch := omega) only [q_50_0, q_50_1, q_50_4, q_50_5, q_50_8, q_50_11, q_50_12, q_50_13, q_50_16, q_50_17, q_50_18, q_50_21, q_50_24, q_50_25, q_50_e, va_rf_s, bz_0, bz_1, bz_ok, bb_ok, Nat.add_assoc, w_lt, w_add, w_sub, w_mul, w_div, em_def, w_eq, w_inT, ↓ilt_t, ↓ilt_f, ↓ieq_t, ↓ieq_f, ntT, w_b, w_ix, kx_v, kx_n, kl_n, kl_i, kl_r, kl_o, inA_i, inA_s, inA_b, inA_z, inA_l, inA_0, inA_4, inA_5, inA_6, inA_7, inA_8, inA_9, inA_10, al_0, al_1, al_2, al_4, al_5, al_98, bsP_2, bsP_3, wr_same, wr_wr, wr_ne, up_same, up_ne, Nat.reduceAdd, Int.reduceAdd, Int.reduceSub, Int.reduceMul, Int.reduceLT, Int.reduceLE, Int.reduceEq, Int.reduceNeg, Int.reduceToNat, Nat.reduceLT, Nat.reduceLeDiff, Nat.reduceEqDiff, ↓reduceIte, true_and, and_true, not_true_eq_false, not_false_eq_true, eq_self, or_true, true_or, or_false, false_or, if_true, if_false, Int.toNat_natCast, w_ite, Nat.add_zero, reduceCtorEq, ne_eq, hK.1]
  · rw [if_neg c, if_neg (by omega)]
end

/-! finding a text in the order -/
def plp (tx : Nat → List Int) (t : List Int) (beh : Bool) (n : Nat) : Bool := decide (lexc (tx n) t < 0) || (beh && decide (lexc (tx n) t = 0))
def plc (tx : Nat → List Int) (L : List Nat) (t : List Int) (beh : Bool) : Nat := (L.takeWhile (plp tx t beh)).length
theorem plp_mono {tx : Nat → List Int} {t : List Int} {beh : Bool} {a b : Nat} (h : klt tx a b) (hb : plp tx t beh b = true) : plp tx t beh a = true := by
  have hab : lexc (tx a) (tx b) ≤ 0 := by unfold klt at h; omega
  have hbt : lexc (tx b) t ≤ 0 ∧ (beh = true ∨ lexc (tx b) t < 0) := by
    unfold plp at hb
    cases beh
    · simp at hb; exact ⟨by omega, Or.inr hb⟩
    · simp at hb; exact ⟨by omega, Or.inl rfl⟩
  have h3 := lexc_tr _ _ _ hab hbt.1
  unfold plp
  rcases hbt.2 with h | h
  · subst h
    simp only [Bool.true_and, Bool.or_eq_true, decide_eq_true_eq]; omega
  · simp only [Bool.or_eq_true, decide_eq_true_eq]
    left
    rcases Int.lt_or_eq_of_le h3.1 with h4 | h4
    · exact h4
    · have := h3.2 h4; omega
theorem plc_le {tx : Nat → List Int} {L : List Nat} {t : List Int} {beh : Bool} : plc tx L t beh ≤ L.length := by
  unfold plc
  have : (L.takeWhile (plp tx t beh)).length + (L.dropWhile (plp tx t beh)).length = L.length := by
    rw [← List.length_append, List.takeWhile_append_dropWhile]
  omega
theorem plc_at {tx : Nat → List Int} {t : List Int} {beh : Bool} : ∀ {L : List Nat} (_ : L.Pairwise (klt tx)) (i : Nat), i < L.length → (plp tx t beh (L.getD i 0) = true ↔ i < plc tx L t beh)
  | [], _, i, hi => nomatch hi
  | x :: L, hp, i, hi => by
    have hp' := List.pairwise_cons.mp hp
    have ih := fun j hj => plc_at (tx := tx) (t := t) (beh := beh) hp'.2 j hj
    unfold plc at ih ⊢
    by_cases hx : plp tx t beh x = true
    · rw [List.takeWhile_cons_of_pos hx, List.length_cons]
      match i, hi with
      | 0, _ => exact ⟨fun _ => by omega, fun _ => hx⟩
      | i + 1, hi =>
        have := ih i (by simpa using hi)
        show plp tx t beh (L.getD i 0) = true ↔ _
        rw [this]; omega
    · rw [List.takeWhile_cons_of_neg hx, List.length_nil]
      refine ⟨fun h => absurd ?_ hx, fun h => by omega⟩
      match i, hi with
      | 0, _ => exact h
      | i + 1, hi =>
        refine plp_mono (hp'.1 (L.getD i 0) ?_) h
        rw [List.getD_eq_getElem?_getD, List.getElem?_eq_getElem (by simpa using hi)]
        exact List.getElem_mem _
theorem plc_mono {tx : Nat → List Int} {L : List Nat} {t : List Int} (h : L.Pairwise (klt tx)) : plc tx L t false ≤ plc tx L t true := by
  apply Classical.byContradiction
  intro hc
  have h1 := plc_le (tx := tx) (L := L) (t := t) (beh := false)
  have h2 := (plc_at (t := t) (beh := false) h (plc tx L t true) (by omega)).mpr (by omega)
  have h3 : plp tx t true (L.getD (plc tx L t true) 0) = true := by
    unfold plp at h2 ⊢
    simp at h2
    simp [h2]
  have := (plc_at (t := t) (beh := true) h (plc tx L t true) (by omega)).mp h3
  omega
/-- the numbers up to p that are said so -/
def rd (rs : List Rl) (p : Nat) (t : List Int) : List Nat := (List.range (p + 1)).filter (fun n => decide (T rs n = some t))
theorem rd_mem {rs : List Rl} {p n : Nat} {t : List Int} : n ∈ rd rs p t ↔ n ≤ p ∧ T rs n = some t := by
  unfold rd; rw [List.mem_filter, List.mem_range, decide_eq_true_iff]
  constructor
  · rintro ⟨a, b⟩; exact ⟨by omega, b⟩
  · rintro ⟨a, b⟩; exact ⟨by omega, b⟩
theorem rd_lt {rs : List Rl} {p : Nat} {t : List Int} : (rd rs p t).Pairwise (· < ·) := List.pairwise_lt_range.sublist List.filter_sublist
theorem lt_uniq {L M : List Nat} (hL : L.Pairwise (· < ·)) (hM : M.Pairwise (· < ·)) (h : ∀ x, x ∈ L ↔ x ∈ M) : L = M :=
  klt_uniq (tx := fun _ => []) (hL.imp (fun h => Or.inr ⟨rfl, h⟩)) (hM.imp (fun h => Or.inr ⟨rfl, h⟩)) h
theorem lexc_eq {s t : List Int} (hs : ∀ b ∈ s, 0 ≤ b ∧ b < 128) (ht : ∀ b ∈ t, -128 ≤ b ∧ b < 128) : lexc s t = 0 ↔ s = t := by
  induction s generalizing t with
  | nil =>
    cases t with
    | nil => exact ⟨fun _ => rfl, fun _ => rfl⟩
    | cons y t => refine ⟨fun h => ?_, fun h => by cases h⟩; unfold lexc at h; rw [List.length_cons] at h; omega
  | cons x s ih =>
    cases t with
    | nil => refine ⟨fun h => ?_, fun h => by cases h⟩; unfold lexc at h; rw [List.length_cons] at h; omega
    | cons y t =>
      have hx := hs x (List.mem_cons_self ..)
      have hy := ht y (List.mem_cons_self ..)
      have ih := ih (t := t) (fun b hb => hs b (List.mem_cons_of_mem _ hb)) (fun b hb => ht b (List.mem_cons_of_mem _ hb))
      unfold lexc
      by_cases h : x % 256 - y % 256 = 0
      · rw [if_pos h, ih]
        have : x = y := by omega
        subst this
        exact ⟨fun h => by rw [h], fun h => by cases h; rfl⟩
      · rw [if_neg h]
        exact ⟨fun h' => absurd h' h, fun h' => by cases h'; omega⟩
/-- the block of the order that is said so -/
theorem rd_block {rs : List Rl} {p : Nat} {t : List Int} (hr : rsOk rs) (ht : ∀ b ∈ t, -128 ≤ b ∧ b < 128) : ((ordl rs p).drop (plc (tx rs) (ordl rs p) t false)).take (plc (tx rs) (ordl rs p) t true - plc (tx rs) (ordl rs p) t false) = rd rs p t := by
  have hs := ordl_srt (rs := rs) (h := p)
  have hmem : ∀ n, n ∈ ordl rs p → (lexc (tx rs n) t = 0 ↔ T rs n = some t) := by
    intro n hn
    obtain ⟨s, hs⟩ := Option.isSome_iff_exists.mp (ordl_mem.mp hn).2
    have e : tx rs n = s := by unfold tx; rw [hs]; rfl
    have hb := (T_ok hr hs).1
    rw [e, lexc_eq (fun b hb' => by rcases hb b hb' with h | h <;> omega) ht, hs]
    exact ⟨fun h => by rw [h], fun h => Option.some.inj h⟩
  have hm := plc_mono (t := t) hs
  have hle := plc_le (tx := tx rs) (L := ordl rs p) (t := t) (beh := true)
  generalize h1 : plc (tx rs) (ordl rs p) t false = m1 at *
  generalize h2 : plc (tx rs) (ordl rs p) t true = m2 at *
  have hz : ∀ i, i < (ordl rs p).length → (lexc (tx rs ((ordl rs p).getD i 0)) t = 0 ↔ m1 ≤ i ∧ i < m2) := by
    intro i hi
    have a1 := plc_at (t := t) (beh := false) hs i hi
    have a2 := plc_at (t := t) (beh := true) hs i hi
    rw [h1] at a1
    rw [h2] at a2
    unfold plp at a1 a2
    simp only [Bool.false_and, Bool.or_false, decide_eq_true_eq] at a1
    simp only [Bool.true_and, Bool.or_eq_true, decide_eq_true_eq] at a2
    omega
  have hblk : ∀ n, n ∈ ((ordl rs p).drop m1).take (m2 - m1) ↔ n ∈ ordl rs p ∧ lexc (tx rs n) t = 0 := by
    intro n
    constructor
    · intro hn
      obtain ⟨i, hi, e⟩ := List.getElem_of_mem hn
      rw [List.length_take, List.length_drop] at hi
      rw [List.getElem_take, List.getElem_drop] at e
      refine ⟨List.mem_of_mem_drop (List.mem_of_mem_take hn), ?_⟩
      have := (hz (m1 + i) (by omega)).mpr ⟨by omega, by omega⟩
      rw [List.getD_eq_getElem?_getD, List.getElem?_eq_getElem (by omega)] at this
      rw [← e]; exact this
    · rintro ⟨hn, h0⟩
      obtain ⟨i, hi, e⟩ := List.getElem_of_mem hn
      have hzi := hz i hi
      rw [List.getD_eq_getElem?_getD, List.getElem?_eq_getElem hi] at hzi
      have hb := hzi.mp (by rw [Option.getD_some, e]; exact h0)
      have : ((ordl rs p).drop m1).take (m2 - m1) = ((ordl rs p).drop m1).take (m2 - m1) := rfl
      rw [← e]
      have hg : (((ordl rs p).drop m1).take (m2 - m1))[i - m1]'(by rw [List.length_take, List.length_drop]; omega) = (ordl rs p)[i] := by
        rw [List.getElem_take, List.getElem_drop]
        congr 1; omega
      rw [← hg]
      exact List.getElem_mem _
  refine lt_uniq ?_ rd_lt (fun n => ?_)
  · have hp := hs.sublist ((List.take_sublist (m2 - m1) _).trans (List.drop_sublist m1 (ordl rs p)))
    refine List.Pairwise.imp_of_mem (fun {a b} ha hb h => ?_) hp
    have ea := ((hblk a).mp ha).2
    have eb := ((hblk b).mp hb).2
    have e1 := lexc_neg (tx rs b) t
    have := lexc_tr (tx rs b) t (tx rs a) (by omega) (by have := lexc_neg (tx rs a) t; omega)
    have := lexc_neg (tx rs a) (tx rs b)
    unfold klt at h
    omega
  · rw [hblk, rd_mem]
    constructor
    · rintro ⟨hn, h0⟩; exact ⟨(ordl_mem.mp hn).1, (hmem n hn).mp h0⟩
    · rintro ⟨hn, h0⟩
      have hn' := ordl_mem.mpr ⟨hn, by rw [h0]; rfl⟩
      exact ⟨hn', (hmem n hn').mpr h0⟩
def fstz (l : List Nat) : Int := match l with
  | [] => -1
  | x :: _ => x
def lstz (l : List Nat) : Int := match l.getLast? with
  | none => -1
  | some x => x
section
variable {d : Nat} {Q : XO → Hp → Prop} {S : SH} {I : MI} {L : ML} {R : MR} {G : MG} {A : Hp}
variable {k : Nat}
theorem sp_51 {tx : Nat → List Int} {L' : List Nat} {a p n1 : Nat} {t : List Int} {beh : Bool} (hK : RankS S k) (h3 : I k 3 = w L'.length) (hl : L'.length ≤ 1001) (hT : Txt (I (k + 18)) 0 (zl L')) (hS : ∀ n ∈ L', n ≤ 1000 ∧ Sd I (k + 1) n (tx n)) (hP : L'.Pairwise (klt tx)) (ha : S a = some (.inl (2, n1))) (hn1 : n1 < 2147483648) (hp : p + t.length ≤ n1) (ht : Txt (I a) p t) (htl : t.length ≤ 1000) :
    XC (d + 3) 51 [.ref k, .ref a, .int (w p), .int (w t.length), .int (bz beh)] (mk S I L R G) Q ↔ Q (.inl (some (.int (w (plc tx L' t beh))))) (mk S I L R G) := by
  obtain ⟨g0, g1, g2, g3⟩ := id hK
  obtain ⟨v0, v1, v2, v3⟩ := g1.facts
  simp only [Nat.add_assoc, Nat.reduceAdd] at v1 v2 v3
  have hm := plc_le (tx := tx) (L := L') (t := t) (beh := beh)
  have lp : ∀ (j st lo hi : Nat) (o1 o2 o3 : Option Value), st + j = 1001 → lo ≤ plc tx L' t beh → plc tx L' t beh ≤ hi → hi ≤ L'.length → hi - lo ≤ j → (XX (d + 3) 51 21 [some (.ref k), some (.ref a), some (.int (w p)), some (.int (w t.length)), some (.int (bz beh)), some (.ref (k + 2)), some (.int (w lo)), some (.int (w hi)), some (.int (w st)), o1, o2, o3] [] (mk S I L R G) Q ↔ Q (.inl (some (.int (w (plc tx L' t beh))))) (mk S I L R G)) := by
    intro j
    induction j with
    | zero =>
      intro st lo hi o1 o2 o3 h1 h2 h3' h4 h5
      rw [q_51_21]
      simp (disch := omega) only [q_51_0, q_51_1, q_51_4, q_51_7, q_51_9, q_51_10, q_51_12, q_51_13, q_51_16, q_51_18, q_51_19, q_51_23, q_51_26, q_51_29, q_51_31, q_51_33, q_51_36, q_51_38, q_51_40, q_51_41, q_51_42, q_51_43, q_51_45, q_51_46, q_51_48, q_51_51, q_51_53, q_51_55, q_51_58, q_51_60, q_51_62, q_51_65, q_51_67, q_51_69, q_51_72, q_51_73, q_51_74, q_51_75, q_51_78, q_51_80, q_51_82, q_51_85, q_51_87, q_51_90, q_51_92, q_51_95, q_51_97, q_51_98, q_51_99, q_51_101, q_51_104, q_51_106, q_51_108, q_51_111, q_51_114, q_51_116, q_51_e, va_rf_s, bz_0, bz_1, bz_ok, bb_ok, Nat.add_assoc, w_lt, w_add, w_sub, w_mul, w_div, em_def, w_eq, w_inT, ↓ilt_t, ↓ilt_f, ↓ieq_t, ↓ieq_f, ntT, w_b, w_ix, kx_v, kx_n, kl_n, kl_i, kl_r, kl_o, inA_i, inA_s, inA_b, inA_z, inA_l, inA_0, inA_4, inA_5, inA_6, inA_7, inA_8, inA_9, inA_10, al_0, al_1, al_2, al_4, al_5, al_98, bsP_2, bsP_3, wr_same, wr_wr, wr_ne, up_same, up_ne, Nat.reduceAdd, Int.reduceAdd, Int.reduceSub, Int.reduceMul, Int.reduceLT, Int.reduceLE, Int.reduceEq, Int.reduceNeg, Int.reduceToNat, Nat.reduceLT, Nat.reduceLeDiff, Nat.reduceEqDiff, ↓reduceIte, true_and, and_true, not_true_eq_false, not_false_eq_true, eq_self, or_true, true_or, or_false, false_or, if_true, if_false, Int.toNat_natCast, w_ite, Nat.add_zero, reduceCtorEq, ne_eq]
      rw [show lo = plc tx L' t beh by omega]
    | succ j ih =>
      intro st lo hi o1 o2 o3 h1 h2 h3' h4 h5
      rw [q_51_21]
      by_cases c : lo < hi
      · have em : ((lo : Int) + hi) / 2 = (((lo + hi) / 2 : Nat) : Int) := by omega
        have hmid : (lo + hi) / 2 < L'.length := by omega
        generalize hmd : (lo + hi) / 2 = mid at *
        have s47 := fun {d : Nat} {Q : XO → Hp → Prop} => sp_47 (d := d) (Q := Q) (L := L) (R := R) (G := G) (i := (mid : Int)) hK h3 hl hT (by omega) (by omega)
        have hmem : L'.getD mid 0 ∈ L' := by
          rw [List.getD_eq_getElem?_getD, List.getElem?_eq_getElem hmid]; exact List.getElem_mem _
        have hsd := hS _ hmem
        simp only [if_pos (show 0 ≤ (mid : Int) ∧ (mid : Int) < L'.length by omega), Int.toNat_natCast] at s47
        have s31 := fun {d : Nat} {Q : XO → Hp → Prop} => sp_31 (d := d) (Q := Q) (I := I) (L := L) (R := R) (G := G) g1.2.1 (n := ((L'.getD mid 0 : Nat) : Int)) (by omega) (by omega)
        have s32 := fun {d : Nat} {Q : XO → Hp → Prop} => sp_32t (d := d) (Q := Q) (L := L) (R := R) (G := G) g1.2.1 (n := ((L'.getD mid 0 : Nat) : Int)) (by omega) (by omega) hsd.2
        have ca : slot ((L'.getD mid 0 : Nat) : Int) * 100 = ((sl ((L'.getD mid 0 : Nat) : Int) * 100 : Nat) : Int) := by rw [Int.natCast_mul, sl_c]; rfl
        have la := sl_bd ((L'.getD mid 0 : Nat) : Int)
        have s151 := fun {d : Nat} {Q : XO → Hp → Prop} => sp_cmp (d := d) (Q := Q) (I := I) (L := L) (R := R) (G := G) (p := sl ((L'.getD mid 0 : Nat) : Int) * 100) (q := p) (s := tx (L'.getD mid 0)) (t := t) v2 ha (by decide) hn1 (by have := hsd.2.2.2.1; omega) hp hsd.2.2.2.2.1 ht
        have hlb := lexc_bd (tx (L'.getD mid 0)) t
        have hl1 := hsd.2.2.2.1
        have hat := plc_at (t := t) (beh := beh) hP mid hmid
        simp only [Nat.add_assoc, Nat.reduceAdd] at s31 s32 s151
        generalize L'.getD mid 0 = nn at *
        simp (disch := omega) only [q_51_0, q_51_1, q_51_4, q_51_7, q_51_9, q_51_10, q_51_12, q_51_13, q_51_16, q_51_18, q_51_19, q_51_23, q_51_26, q_51_29, q_51_31, q_51_33, q_51_36, q_51_38, q_51_40, q_51_41, q_51_42, q_51_43, q_51_45, q_51_46, q_51_48, q_51_51, q_51_53, q_51_55, q_51_58, q_51_60, q_51_62, q_51_65, q_51_67, q_51_69, q_51_72, q_51_73, q_51_74, q_51_75, q_51_78, q_51_80, q_51_82, q_51_85, q_51_87, q_51_90, q_51_92, q_51_95, q_51_97, q_51_98, q_51_99, q_51_101, q_51_104, q_51_106, q_51_108, q_51_111, q_51_114, q_51_116, q_51_e, va_rf_s, bz_0, bz_1, bz_ok, bb_ok, Nat.add_assoc, w_lt, w_add, w_sub, w_mul, w_div, em_def, w_eq, w_inT, ↓ilt_t, ↓ilt_f, ↓ieq_t, ↓ieq_f, ntT, w_b, w_ix, kx_v, kx_n, kl_n, kl_i, kl_r, kl_o, inA_i, inA_s, inA_b, inA_z, inA_l, inA_0, inA_4, inA_5, inA_6, inA_7, inA_8, inA_9, inA_10, al_0, al_1, al_2, al_4, al_5, al_98, bsP_2, bsP_3, wr_same, wr_wr, wr_ne, up_same, up_ne, Nat.reduceAdd, Int.reduceAdd, Int.reduceSub, Int.reduceMul, Int.reduceLT, Int.reduceLE, Int.reduceEq, Int.reduceNeg, Int.reduceToNat, Nat.reduceLT, Nat.reduceLeDiff, Nat.reduceEqDiff, ↓reduceIte, true_and, and_true, not_true_eq_false, not_false_eq_true, eq_self, or_true, true_or, or_false, false_or, if_true, if_false, Int.toNat_natCast, w_ite, Nat.add_zero, reduceCtorEq, ne_eq, g0, v0, v1, v2, em, s47, s31, s32, ca, s151]
        have iL := fun o1 o2 o3 => ih (st + 1) (mid + 1) hi o1 o2 o3 (by omega)
        have iR := fun o1 o2 o3 => ih (st + 1) lo mid o1 o2 o3 (by omega)
        simp only [Int.natCast_add, Int.natCast_one] at iL iR
        unfold plp at hat
        by_cases c1 : lexc (tx nn) t < 0
        · rw [if_pos c1]
          exact iL _ _ _ (by have := hat.mp (by rw [decide_eq_true c1]; rfl); omega) h3' h4 (by omega)
        · rw [if_neg c1]
          rw [decide_eq_false c1, Bool.false_or] at hat
          cases beh with
          | false =>
            have hn : ¬ mid < plc tx L' t false := fun h => by have := hat.mpr h; simp at this
            rw [if_pos rfl]
            exact iR _ _ _ h2 (by omega) (by omega) (by omega)
          | true =>
            rw [if_neg (by decide)]
            by_cases c2 : lexc (tx nn) t = 0
            · rw [if_pos c2]
              exact iL _ _ _ (by have := hat.mp (by rw [decide_eq_true c2]; rfl); omega) h3' h4 (by omega)
            · have hn : ¬ mid < plc tx L' t true := fun h => by have := hat.mpr h; rw [decide_eq_false c2] at this; simp at this
              rw [if_neg c2]
              exact iR _ _ _ h2 (by omega) (by omega) (by omega)
      · simp (disch := omega) only [q_51_0, q_51_1, q_51_4, q_51_7, q_51_9, q_51_10, q_51_12, q_51_13, q_51_16, q_51_18, q_51_19, q_51_23, q_51_26, q_51_29, q_51_31, q_51_33, q_51_36, q_51_38, q_51_40, q_51_41, q_51_42, q_51_43, q_51_45, q_51_46, q_51_48, q_51_51, q_51_53, q_51_55, q_51_58, q_51_60, q_51_62, q_51_65, q_51_67, q_51_69, q_51_72, q_51_73, q_51_74, q_51_75, q_51_78, q_51_80, q_51_82, q_51_85, q_51_87, q_51_90, q_51_92, q_51_95, q_51_97, q_51_98, q_51_99, q_51_101, q_51_104, q_51_106, q_51_108, q_51_111, q_51_114, q_51_116, q_51_e, va_rf_s, bz_0, bz_1, bz_ok, bb_ok, Nat.add_assoc, w_lt, w_add, w_sub, w_mul, w_div, em_def, w_eq, w_inT, ↓ilt_t, ↓ilt_f, ↓ieq_t, ↓ieq_f, ntT, w_b, w_ix, kx_v, kx_n, kl_n, kl_i, kl_r, kl_o, inA_i, inA_s, inA_b, inA_z, inA_l, inA_0, inA_4, inA_5, inA_6, inA_7, inA_8, inA_9, inA_10, al_0, al_1, al_2, al_4, al_5, al_98, bsP_2, bsP_3, wr_same, wr_wr, wr_ne, up_same, up_ne, Nat.reduceAdd, Int.reduceAdd, Int.reduceSub, Int.reduceMul, Int.reduceLT, Int.reduceLE, Int.reduceEq, Int.reduceNeg, Int.reduceToNat, Nat.reduceLT, Nat.reduceLeDiff, Nat.reduceEqDiff, ↓reduceIte, true_and, and_true, not_true_eq_false, not_false_eq_true, eq_self, or_true, true_or, or_false, false_or, if_true, if_false, Int.toNat_natCast, w_ite, Nat.add_zero, reduceCtorEq, ne_eq]
        rw [show lo = plc tx L' t beh by omega]
  have := lp 1001 0 0 L'.length none none none (by omega) (Nat.zero_le _) hm (Nat.le_refl _) (by omega)
  simp only [Int.natCast_zero] at this
  simp (disch := omega) only [q_51_0, q_51_1, q_51_4, q_51_7, q_51_9, q_51_10, q_51_12, q_51_13, q_51_16, q_51_18, q_51_19, q_51_23, q_51_26, q_51_29, q_51_31, q_51_33, q_51_36, q_51_38, q_51_40, q_51_41, q_51_42, q_51_43, q_51_45, q_51_46, q_51_48, q_51_51, q_51_53, q_51_55, q_51_58, q_51_60, q_51_62, q_51_65, q_51_67, q_51_69, q_51_72, q_51_73, q_51_74, q_51_75, q_51_78, q_51_80, q_51_82, q_51_85, q_51_87, q_51_90, q_51_92, q_51_95, q_51_97, q_51_98, q_51_99, q_51_101, q_51_104, q_51_106, q_51_108, q_51_111, q_51_114, q_51_116, q_51_e, va_rf_s, bz_0, bz_1, bz_ok, bb_ok, Nat.add_assoc, w_lt, w_add, w_sub, w_mul, w_div, em_def, w_eq, w_inT, ↓ilt_t, ↓ilt_f, ↓ieq_t, ↓ieq_f, ntT, w_b, w_ix, kx_v, kx_n, kl_n, kl_i, kl_r, kl_o, inA_i, inA_s, inA_b, inA_z, inA_l, inA_0, inA_4, inA_5, inA_6, inA_7, inA_8, inA_9, inA_10, al_0, al_1, al_2, al_4, al_5, al_98, bsP_2, bsP_3, wr_same, wr_wr, wr_ne, up_same, up_ne, Nat.reduceAdd, Int.reduceAdd, Int.reduceSub, Int.reduceMul, Int.reduceLT, Int.reduceLE, Int.reduceEq, Int.reduceNeg, Int.reduceToNat, Nat.reduceLT, Nat.reduceLeDiff, Nat.reduceEqDiff, ↓reduceIte, true_and, and_true, not_true_eq_false, not_false_eq_true, eq_self, or_true, true_or, or_false, false_or, if_true, if_false, Int.toNat_natCast, w_ite, Nat.add_zero, reduceCtorEq, ne_eq, g0, v0, h3]
  exact this
end

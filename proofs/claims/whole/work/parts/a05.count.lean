/-! words and letters of what is said -/
def wct : Bool → List Int → Nat
  | _, [] => 0
  | b, x :: r => (if x ≠ 32 ∧ b = true then 1 else 0) + wct (decide (x = 32)) r
def gdt : Bool → List Int → Bool
  | b, [] => !b
  | b, x :: r => if x = 32 then (!b && gdt true r) else gdt false r
theorem gdt_c {b : Bool} {x : Int} {r : List Int} : gdt b (x :: r) = if x = 32 then (!b && gdt true r) else gdt false r := rfl
theorem gdt_mono : ∀ t, gdt true t = true → gdt false t = true
  | [], h => by cases h
  | x :: r, h => by
    unfold gdt at h ⊢
    split
    · rename_i hx; rw [if_pos hx] at h; cases h
    · rename_i hx; rw [if_neg hx] at h; exact h
theorem gdt_app : ∀ (s : List Int) (b : Bool) (u : List Int), gdt b s = true → gdt b (s ++ u) = gdt false u
  | [], b, u, h => by
    cases b with
    | true => cases h
    | false => rfl
  | x :: s, b, u, h => by
    rw [List.cons_append]
    rw [gdt_c] at h ⊢
    split
    · rename_i hx
      rw [if_pos hx, Bool.and_eq_true] at h
      rw [gdt_app s true u h.2, h.1, Bool.true_and]
    · rename_i hx
      rw [if_neg hx] at h
      exact gdt_app s false u h
theorem gdt_cat {t p : List Int} {g : Bool} (ht : t = [] ∨ gdt true t = true) (hp : gdt true p = true) : gdt true (cat t g p) = true := by
  unfold cat
  rcases ht with rfl | ht
  · rw [if_neg (fun h => h.1 rfl)]; exact hp
  · split
    · rw [gdt_app t true _ ht]
      show (if (32 : Int) = 32 then (!false && gdt true p) else gdt false p) = true
      rw [if_pos rfl, hp]; rfl
    · rw [gdt_app t true _ ht]
      exact gdt_mono p hp
theorem gdt_let : ∀ (q : List Int) (b : Bool), (∀ x ∈ q, x ≠ 32) → q ≠ [] → gdt b q = true
  | [], _, _, h => absurd rfl h
  | x :: r, b, hq, _ => by
    unfold gdt
    rw [if_neg (hq x (List.mem_cons_self ..))]
    cases r with
    | nil => rfl
    | cons y r => exact gdt_let (y :: r) false (fun z hz => hq z (List.mem_cons_of_mem _ hz)) (fun e => by cases e)
theorem evIs_gd {ask : Int → Option EV} {z : Int} (hb : ∀ q x, ask q = some x → x.1 = [] ∨ gdt true x.1 = true) : ∀ (its : List It) (t : List Int) (g : Bool) (a : Int) (h : Nat) (x : EV), (∀ it ∈ its, itOk it) → (t = [] ∨ gdt true t = true) → evIs ask z its t g a h = some x → x.1 = [] ∨ gdt true x.1 = true
  | [], t, g, a, h, x, _, ht, e => by cases e; exact ht
  | it :: r, t, g, a, h, x, hi, ht, e => by
    have hr := fun it' h' => hi it' (List.mem_cons_of_mem _ h')
    have h0 := hi it (List.mem_cons_self ..)
    unfold evIs at e
    split at e
    · exact evIs_gd hb r _ _ _ _ _ hr ht e
    · split at e
      · rename_i d0
        split at e
        · cases e
        · refine evIs_gd hb r _ _ _ _ _ hr (Or.inr (gdt_cat ht ?_)) e
          rcases h0 with h | h | h
          · exact gdt_let _ _ (fun b hb => by have := h.2.2.2.2 b hb; omega) (fun e => by rw [e] at h; exact absurd h.2.1 (by decide))
          · omega
          · omega
      · split at e
        · exact evIs_gd hb r _ _ _ _ _ hr ht e
        · split at e
          · cases e
          · rename_i q _ p b k hq
            have hp := hb _ _ hq
            dsimp only at hp
            split at e
            · exact evIs_gd hb r _ _ _ _ _ hr ht e
            · rename_i hne
              split at e
              · cases e
              · refine evIs_gd hb r _ _ _ _ _ hr (Or.inr (gdt_cat ht ?_)) e
                rcases hp with hp | hp
                · exact absurd hp hne
                · exact hp
theorem ev_gd {rs : List Rl} (hr : rsOk rs) : ∀ (f : Nat) (z : Int) (x : EV), ev rs f z = some x → x.1 = [] ∨ gdt true x.1 = true
  | 0, z, x, h => by cases h
  | f + 1, z, x, h => by
    obtain ⟨-, -, k, ρ, -, h4, h5⟩ := ev_in h
    exact evIs_gd (ev_gd hr f) _ _ _ _ _ _ ((hr ρ (List.mem_of_getElem? h4)).2.2.2.2.2.2.2.2.2) (Or.inl rfl) h5
theorem wct_nl : ∀ (t : List Int) (b : Bool), gdt b t = true → (wct b t : Int) = t.length - nlet t + (if b = true then 1 else 0)
  | [], b, h => by
    cases b with
    | true => cases h
    | false => rfl
  | x :: r, b, h => by
    unfold gdt at h
    unfold wct nlet
    rw [List.length_cons]
    by_cases hx : x = 32
    · rw [if_pos hx, Bool.and_eq_true] at h
      have ih := wct_nl r true h.2
      rw [if_pos hx, if_neg (fun h => h.1 hx), decide_eq_true hx]
      have hb : b = false := by simpa using h.1
      rw [hb]
      rw [if_pos rfl] at ih
      simp only [Bool.false_eq_true, if_false]
      omega
    · rw [if_neg hx] at h
      have ih := wct_nl r false h
      rw [if_neg hx, decide_eq_false hx]
      simp only [Bool.false_eq_true, if_false] at ih
      cases b with
      | true => rw [if_pos ⟨hx, rfl⟩, if_pos rfl]; omega
      | false => rw [if_neg (fun h => by cases h.2)]; simp only [Bool.false_eq_true, if_false]; omega
theorem T_wct {rs : List Rl} (hr : rsOk rs) {n : Int} {t : List Int} (h : T rs n = some t) : (wct true t : Int) = if t.length = 0 then 0 else (t.length : Int) - nlet t + 1 := by
  unfold T at h
  obtain ⟨⟨t', a⟩, h1, rfl⟩ := Option.map_eq_some_iff.mp h
  obtain ⟨k, h2, -⟩ := sd_ev h1
  rcases ev_gd hr _ _ _ h2 with e | e
  · have e : t' = [] := e
    subst e; rfl
  · have e : gdt true t' = true := e
    have hne : t'.length ≠ 0 := fun h => by
      rw [List.length_eq_zero_iff.mp h] at e; cases e
    rw [if_neg hne, wct_nl t' true e, if_pos rfl]
theorem wct_snoc : ∀ (s : List Int) (b : Bool) (x : Int), wct b (s ++ [x]) = wct b s + (if x ≠ 32 ∧ (match s.getLast? with | none => b | some y => decide (y = 32)) = true then 1 else 0)
  | [], b, x => by
    show (if x ≠ 32 ∧ b = true then 1 else 0) + 0 = 0 + _
    rw [Nat.add_zero, Nat.zero_add]; rfl
  | y :: s, b, x => by
    rw [List.cons_append]
    unfold wct
    rw [wct_snoc s (decide (y = 32)) x, Nat.add_assoc]
    congr 1
    congr 1
    cases s with
    | nil => rfl
    | cons z s =>
      rw [List.getLast?_cons_cons]
      have : ∃ u, (z :: s).getLast? = some u := ⟨_, List.getLast?_eq_some_getLast (by simp)⟩
      obtain ⟨u, hu⟩ := this
      rw [hu]
theorem nlet_snoc (s : List Int) (x : Int) : nlet (s ++ [x]) = nlet s + (if x = 32 then 0 else 1) := by
  rw [nlet_app]
  show nlet s + ((if x = 32 then 0 else 1) + 0) = _
  omega
theorem wct_le : ∀ (t : List Int) (b : Bool), wct b t ≤ t.length
  | [], _ => Nat.le_refl _
  | x :: r, b => by
    have := wct_le r (decide (x = 32))
    unfold wct
    rw [List.length_cons]
    split <;> omega
section
variable {d : Nat} {Q : XO → Hp → Prop} {S : SH} {I : MI} {L : ML} {R : MR} {G : MG} {A : Hp}
variable {m : Nat}
theorem sp_207 {a p n1 : Nat} {t : List Int} {r : Nat} (ha : S a = some (.inl (2, n1))) (hn1 : n1 < 2147483648) (hp : p + t.length ≤ n1) (hT : Txt (I a) p t) (hb : bOk t) : XC d 207 [.ref r, .ref a, .int (w p), .int (w t.length)] (mk S I L R G) Q ↔ Q (.inl (some (.int (w (nlet t))))) (mk S I L R G) := by
  have lp : ∀ (j i : Nat), i + j = t.length → (XX d 207 6 [some (.ref r), some (.ref a), some (.int (w p)), some (.int (w t.length)), some (.int (w (nlet (t.take i)))), some (.int (w i))] [] (mk S I L R G) Q ↔ Q (.inl (some (.int (w (nlet t))))) (mk S I L R G)) := by
    intro j
    induction j with
    | zero =>
      intro i hi
      have : i = t.length := by omega
      subst this
      rw [q_207_6, List.take_length]
      simp (disch := omega) only [q_207_0, q_207_1, q_207_3, q_207_4, q_207_8, q_207_9, q_207_12, q_207_14, q_207_15, q_207_16, q_207_18, q_207_19, q_207_20, q_207_22, q_207_25, q_207_26, q_207_29, q_207_30, q_207_31, q_207_33, q_207_36, q_207_39, q_207_41, q_207_e, va_rf_s, bz_0, bz_1, bz_ok, bb_ok, Nat.add_assoc, w_lt, w_add, w_sub, w_mul, w_div, em_def, w_eq, w_inT, ↓ilt_t, ↓ilt_f, ↓ieq_t, ↓ieq_f, ntT, w_b, w_ix, kx_v, kx_n, kl_n, kl_i, kl_r, kl_o, inA_i, inA_s, inA_b, inA_z, inA_l, inA_0, inA_4, inA_5, inA_6, inA_7, inA_8, inA_9, inA_10, al_0, al_1, al_2, al_4, al_5, al_98, bsP_2, bsP_3, wr_same, wr_wr, wr_ne, up_same, up_ne, Nat.reduceAdd, Int.reduceAdd, Int.reduceSub, Int.reduceMul, Int.reduceLT, Int.reduceLE, Int.reduceEq, Int.reduceNeg, Int.reduceToNat, Nat.reduceLT, Nat.reduceLeDiff, Nat.reduceEqDiff, ↓reduceIte, true_and, and_true, not_true_eq_false, not_false_eq_true, eq_self, or_true, true_or, or_false, false_or, if_true, if_false, Int.toNat_natCast, w_ite, Nat.add_zero, reduceCtorEq, ne_eq]
    | succ j ih =>
      intro i hi
      have hil : i < t.length := by omega
      have e := hT i hil
      have hg := hb.get hil
      have e2 : ((p : Int) + i).toNat = p + i := by omega
      have hsn : t.take (i + 1) = t.take i ++ [t.getD i 0] := by
        rw [List.take_add_one, List.getD_eq_getElem?_getD, List.getElem?_eq_getElem hil]; rfl
      have ih' := ih (i + 1) (by omega)
      rw [hsn, nlet_snoc] at ih'
      simp only [Int.natCast_add, Int.natCast_one] at ih'
      rw [q_207_6]
      by_cases c : t.getD i 0 = 32
      · rw [if_pos c] at ih'
        simp (disch := omega) only [q_207_0, q_207_1, q_207_3, q_207_4, q_207_8, q_207_9, q_207_12, q_207_14, q_207_15, q_207_16, q_207_18, q_207_19, q_207_20, q_207_22, q_207_25, q_207_26, q_207_29, q_207_30, q_207_31, q_207_33, q_207_36, q_207_39, q_207_41, q_207_e, va_rf_s, bz_0, bz_1, bz_ok, bb_ok, Nat.add_assoc, w_lt, w_add, w_sub, w_mul, w_div, em_def, w_eq, w_inT, ↓ilt_t, ↓ilt_f, ↓ieq_t, ↓ieq_f, ntT, w_b, w_ix, kx_v, kx_n, kl_n, kl_i, kl_r, kl_o, inA_i, inA_s, inA_b, inA_z, inA_l, inA_0, inA_4, inA_5, inA_6, inA_7, inA_8, inA_9, inA_10, al_0, al_1, al_2, al_4, al_5, al_98, bsP_2, bsP_3, wr_same, wr_wr, wr_ne, up_same, up_ne, Nat.reduceAdd, Int.reduceAdd, Int.reduceSub, Int.reduceMul, Int.reduceLT, Int.reduceLE, Int.reduceEq, Int.reduceNeg, Int.reduceToNat, Nat.reduceLT, Nat.reduceLeDiff, Nat.reduceEqDiff, ↓reduceIte, true_and, and_true, not_true_eq_false, not_false_eq_true, eq_self, or_true, true_or, or_false, false_or, if_true, if_false, Int.toNat_natCast, w_ite, Nat.add_zero, reduceCtorEq, ne_eq, ha, e2, e]
        simp only [Int.add_zero] at ih' ⊢
        exact ih'
      · rw [if_neg c] at ih'
        simp (disch := omega) only [q_207_0, q_207_1, q_207_3, q_207_4, q_207_8, q_207_9, q_207_12, q_207_14, q_207_15, q_207_16, q_207_18, q_207_19, q_207_20, q_207_22, q_207_25, q_207_26, q_207_29, q_207_30, q_207_31, q_207_33, q_207_36, q_207_39, q_207_41, q_207_e, va_rf_s, bz_0, bz_1, bz_ok, bb_ok, Nat.add_assoc, w_lt, w_add, w_sub, w_mul, w_div, em_def, w_eq, w_inT, ↓ilt_t, ↓ilt_f, ↓ieq_t, ↓ieq_f, ntT, w_b, w_ix, kx_v, kx_n, kl_n, kl_i, kl_r, kl_o, inA_i, inA_s, inA_b, inA_z, inA_l, inA_0, inA_4, inA_5, inA_6, inA_7, inA_8, inA_9, inA_10, al_0, al_1, al_2, al_4, al_5, al_98, bsP_2, bsP_3, wr_same, wr_wr, wr_ne, up_same, up_ne, Nat.reduceAdd, Int.reduceAdd, Int.reduceSub, Int.reduceMul, Int.reduceLT, Int.reduceLE, Int.reduceEq, Int.reduceNeg, Int.reduceToNat, Nat.reduceLT, Nat.reduceLeDiff, Nat.reduceEqDiff, ↓reduceIte, true_and, and_true, not_true_eq_false, not_false_eq_true, eq_self, or_true, true_or, or_false, false_or, if_true, if_false, Int.toNat_natCast, w_ite, Nat.add_zero, reduceCtorEq, ne_eq, ha, e2, e]
        exact ih'
  have := lp t.length 0 (by omega)
  simp only [List.take_zero, nlet, Int.natCast_zero] at this
  simp (disch := omega) only [q_207_0, q_207_1, q_207_3, q_207_4, q_207_8, q_207_9, q_207_12, q_207_14, q_207_15, q_207_16, q_207_18, q_207_19, q_207_20, q_207_22, q_207_25, q_207_26, q_207_29, q_207_30, q_207_31, q_207_33, q_207_36, q_207_39, q_207_41, q_207_e, va_rf_s, bz_0, bz_1, bz_ok, bb_ok, Nat.add_assoc, w_lt, w_add, w_sub, w_mul, w_div, em_def, w_eq, w_inT, ↓ilt_t, ↓ilt_f, ↓ieq_t, ↓ieq_f, ntT, w_b, w_ix, kx_v, kx_n, kl_n, kl_i, kl_r, kl_o, inA_i, inA_s, inA_b, inA_z, inA_l, inA_0, inA_4, inA_5, inA_6, inA_7, inA_8, inA_9, inA_10, al_0, al_1, al_2, al_4, al_5, al_98, bsP_2, bsP_3, wr_same, wr_wr, wr_ne, up_same, up_ne, Nat.reduceAdd, Int.reduceAdd, Int.reduceSub, Int.reduceMul, Int.reduceLT, Int.reduceLE, Int.reduceEq, Int.reduceNeg, Int.reduceToNat, Nat.reduceLT, Nat.reduceLeDiff, Nat.reduceEqDiff, ↓reduceIte, true_and, and_true, not_true_eq_false, not_false_eq_true, eq_self, or_true, true_or, or_false, false_or, if_true, if_false, Int.toNat_natCast, w_ite, Nat.add_zero, reduceCtorEq, ne_eq]
  exact this
theorem sp_206 {a p n1 : Nat} {t : List Int} {r : Nat} (ha : S a = some (.inl (2, n1))) (hn1 : n1 < 2147483648) (hp : p + t.length ≤ n1) (hT : Txt (I a) p t) (hb : bOk t) : XC d 206 [.ref r, .ref a, .int (w p), .int (w t.length)] (mk S I L R G) Q ↔ Q (.inl (some (.int (w (wct true t))))) (mk S I L R G) := by
  have lp : ∀ (j i : Nat), i + j = t.length → (XX d 206 6 [some (.ref r), some (.ref a), some (.int (w p)), some (.int (w t.length)), some (.int (w (wct true (t.take i)))), some (.int (w i))] [] (mk S I L R G) Q ↔ Q (.inl (some (.int (w (wct true t))))) (mk S I L R G)) := by
    intro j
    induction j with
    | zero =>
      intro i hi
      have : i = t.length := by omega
      subst this
      rw [q_206_6, List.take_length]
      simp (disch := omega) only [q_206_0, q_206_1, q_206_3, q_206_4, q_206_8, q_206_9, q_206_12, q_206_14, q_206_15, q_206_16, q_206_18, q_206_19, q_206_20, q_206_22, q_206_25, q_206_27, q_206_30, q_206_31, q_206_32, q_206_34, q_206_35, q_206_36, q_206_37, q_206_38, q_206_40, q_206_43, q_206_44, q_206_47, q_206_48, q_206_49, q_206_51, q_206_54, q_206_57, q_206_59, q_206_e, va_rf_s, bz_0, bz_1, bz_ok, bb_ok, Nat.add_assoc, w_lt, w_add, w_sub, w_mul, w_div, em_def, w_eq, w_inT, ↓ilt_t, ↓ilt_f, ↓ieq_t, ↓ieq_f, ntT, w_b, w_ix, kx_v, kx_n, kl_n, kl_i, kl_r, kl_o, inA_i, inA_s, inA_b, inA_z, inA_l, inA_0, inA_4, inA_5, inA_6, inA_7, inA_8, inA_9, inA_10, al_0, al_1, al_2, al_4, al_5, al_98, bsP_2, bsP_3, wr_same, wr_wr, wr_ne, up_same, up_ne, Nat.reduceAdd, Int.reduceAdd, Int.reduceSub, Int.reduceMul, Int.reduceLT, Int.reduceLE, Int.reduceEq, Int.reduceNeg, Int.reduceToNat, Nat.reduceLT, Nat.reduceLeDiff, Nat.reduceEqDiff, ↓reduceIte, true_and, and_true, not_true_eq_false, not_false_eq_true, eq_self, or_true, true_or, or_false, false_or, if_true, if_false, Int.toNat_natCast, w_ite, Nat.add_zero, reduceCtorEq, ne_eq]
    | succ j ih =>
      intro i hi
      have hil : i < t.length := by omega
      have e := hT i hil
      have hg := hb.get hil
      have e2 : ((p : Int) + i).toNat = p + i := by omega
      have hsn : t.take (i + 1) = t.take i ++ [t.getD i 0] := by
        rw [List.take_add_one, List.getD_eq_getElem?_getD, List.getElem?_eq_getElem hil]; rfl
      have ih' := ih (i + 1) (by omega)
      have hwl := wct_le (t.take i) true
      rw [List.length_take] at hwl
      rw [hsn, wct_snoc] at ih'
      simp only [Int.natCast_add, Int.natCast_one] at ih'
      rw [q_206_6]
      by_cases c : t.getD i 0 = 32
      · rw [if_neg (fun h => h.1 c)] at ih'
        simp (disch := omega) only [q_206_0, q_206_1, q_206_3, q_206_4, q_206_8, q_206_9, q_206_12, q_206_14, q_206_15, q_206_16, q_206_18, q_206_19, q_206_20, q_206_22, q_206_25, q_206_27, q_206_30, q_206_31, q_206_32, q_206_34, q_206_35, q_206_36, q_206_37, q_206_38, q_206_40, q_206_43, q_206_44, q_206_47, q_206_48, q_206_49, q_206_51, q_206_54, q_206_57, q_206_59, q_206_e, va_rf_s, bz_0, bz_1, bz_ok, bb_ok, Nat.add_assoc, w_lt, w_add, w_sub, w_mul, w_div, em_def, w_eq, w_inT, ↓ilt_t, ↓ilt_f, ↓ieq_t, ↓ieq_f, ntT, w_b, w_ix, kx_v, kx_n, kl_n, kl_i, kl_r, kl_o, inA_i, inA_s, inA_b, inA_z, inA_l, inA_0, inA_4, inA_5, inA_6, inA_7, inA_8, inA_9, inA_10, al_0, al_1, al_2, al_4, al_5, al_98, bsP_2, bsP_3, wr_same, wr_wr, wr_ne, up_same, up_ne, Nat.reduceAdd, Int.reduceAdd, Int.reduceSub, Int.reduceMul, Int.reduceLT, Int.reduceLE, Int.reduceEq, Int.reduceNeg, Int.reduceToNat, Nat.reduceLT, Nat.reduceLeDiff, Nat.reduceEqDiff, ↓reduceIte, true_and, and_true, not_true_eq_false, not_false_eq_true, eq_self, or_true, true_or, or_false, false_or, if_true, if_false, Int.toNat_natCast, w_ite, Nat.add_zero, reduceCtorEq, ne_eq, ha, e2, e]
        simp only [Int.natCast_zero, Int.add_zero] at ih' ⊢
        exact ih'
      · by_cases c0 : i = 0
        · subst c0
          rw [if_pos ⟨c, rfl⟩] at ih'
          have e0 := e
          rw [Nat.add_zero] at e0
          simp (disch := omega) only [q_206_0, q_206_1, q_206_3, q_206_4, q_206_8, q_206_9, q_206_12, q_206_14, q_206_15, q_206_16, q_206_18, q_206_19, q_206_20, q_206_22, q_206_25, q_206_27, q_206_30, q_206_31, q_206_32, q_206_34, q_206_35, q_206_36, q_206_37, q_206_38, q_206_40, q_206_43, q_206_44, q_206_47, q_206_48, q_206_49, q_206_51, q_206_54, q_206_57, q_206_59, q_206_e, va_rf_s, bz_0, bz_1, bz_ok, bb_ok, Nat.add_assoc, w_lt, w_add, w_sub, w_mul, w_div, em_def, w_eq, w_inT, ↓ilt_t, ↓ilt_f, ↓ieq_t, ↓ieq_f, ntT, w_b, w_ix, kx_v, kx_n, kl_n, kl_i, kl_r, kl_o, inA_i, inA_s, inA_b, inA_z, inA_l, inA_0, inA_4, inA_5, inA_6, inA_7, inA_8, inA_9, inA_10, al_0, al_1, al_2, al_4, al_5, al_98, bsP_2, bsP_3, wr_same, wr_wr, wr_ne, up_same, up_ne, Nat.reduceAdd, Int.reduceAdd, Int.reduceSub, Int.reduceMul, Int.reduceLT, Int.reduceLE, Int.reduceEq, Int.reduceNeg, Int.reduceToNat, Nat.reduceLT, Nat.reduceLeDiff, Nat.reduceEqDiff, ↓reduceIte, true_and, and_true, not_true_eq_false, not_false_eq_true, eq_self, or_true, true_or, or_false, false_or, if_true, if_false, Int.toNat_natCast, w_ite, Nat.add_zero, reduceCtorEq, ne_eq, ha, e2, e, e0]
          exact ih'
        · have e' := hT (i - 1) (by omega)
          have hg' := hb.get (show i - 1 < t.length by omega)
          have e3 : ((p : Int) + i - 1).toNat = p + (i - 1) := by omega
          have hlast : (t.take i).getLast? = some (t.getD (i - 1) 0) := by
            rw [List.getLast?_eq_getElem?, List.length_take, Nat.min_eq_left (by omega), List.getElem?_take_of_lt (by omega), List.getElem?_eq_getElem (by omega), List.getD_eq_getElem?_getD, List.getElem?_eq_getElem (by omega)]
            rfl
          rw [hlast] at ih'
          dsimp only at ih'
          by_cases c1 : t.getD (i - 1) 0 = 32
          · rw [if_pos ⟨c, decide_eq_true c1⟩] at ih'
            simp (disch := omega) only [q_206_0, q_206_1, q_206_3, q_206_4, q_206_8, q_206_9, q_206_12, q_206_14, q_206_15, q_206_16, q_206_18, q_206_19, q_206_20, q_206_22, q_206_25, q_206_27, q_206_30, q_206_31, q_206_32, q_206_34, q_206_35, q_206_36, q_206_37, q_206_38, q_206_40, q_206_43, q_206_44, q_206_47, q_206_48, q_206_49, q_206_51, q_206_54, q_206_57, q_206_59, q_206_e, va_rf_s, bz_0, bz_1, bz_ok, bb_ok, Nat.add_assoc, w_lt, w_add, w_sub, w_mul, w_div, em_def, w_eq, w_inT, ↓ilt_t, ↓ilt_f, ↓ieq_t, ↓ieq_f, ntT, w_b, w_ix, kx_v, kx_n, kl_n, kl_i, kl_r, kl_o, inA_i, inA_s, inA_b, inA_z, inA_l, inA_0, inA_4, inA_5, inA_6, inA_7, inA_8, inA_9, inA_10, al_0, al_1, al_2, al_4, al_5, al_98, bsP_2, bsP_3, wr_same, wr_wr, wr_ne, up_same, up_ne, Nat.reduceAdd, Int.reduceAdd, Int.reduceSub, Int.reduceMul, Int.reduceLT, Int.reduceLE, Int.reduceEq, Int.reduceNeg, Int.reduceToNat, Nat.reduceLT, Nat.reduceLeDiff, Nat.reduceEqDiff, ↓reduceIte, true_and, and_true, not_true_eq_false, not_false_eq_true, eq_self, or_true, true_or, or_false, false_or, if_true, if_false, Int.toNat_natCast, w_ite, Nat.add_zero, reduceCtorEq, ne_eq, ha, e2, e, e3, e']
            exact ih'
          · rw [if_neg (fun h => c1 (of_decide_eq_true h.2))] at ih'
            simp (disch := omega) only [q_206_0, q_206_1, q_206_3, q_206_4, q_206_8, q_206_9, q_206_12, q_206_14, q_206_15, q_206_16, q_206_18, q_206_19, q_206_20, q_206_22, q_206_25, q_206_27, q_206_30, q_206_31, q_206_32, q_206_34, q_206_35, q_206_36, q_206_37, q_206_38, q_206_40, q_206_43, q_206_44, q_206_47, q_206_48, q_206_49, q_206_51, q_206_54, q_206_57, q_206_59, q_206_e, va_rf_s, bz_0, bz_1, bz_ok, bb_ok, Nat.add_assoc, w_lt, w_add, w_sub, w_mul, w_div, em_def, w_eq, w_inT, ↓ilt_t, ↓ilt_f, ↓ieq_t, ↓ieq_f, ntT, w_b, w_ix, kx_v, kx_n, kl_n, kl_i, kl_r, kl_o, inA_i, inA_s, inA_b, inA_z, inA_l, inA_0, inA_4, inA_5, inA_6, inA_7, inA_8, inA_9, inA_10, al_0, al_1, al_2, al_4, al_5, al_98, bsP_2, bsP_3, wr_same, wr_wr, wr_ne, up_same, up_ne, Nat.reduceAdd, Int.reduceAdd, Int.reduceSub, Int.reduceMul, Int.reduceLT, Int.reduceLE, Int.reduceEq, Int.reduceNeg, Int.reduceToNat, Nat.reduceLT, Nat.reduceLeDiff, Nat.reduceEqDiff, ↓reduceIte, true_and, and_true, not_true_eq_false, not_false_eq_true, eq_self, or_true, true_or, or_false, false_or, if_true, if_false, Int.toNat_natCast, w_ite, Nat.add_zero, reduceCtorEq, ne_eq, ha, e2, e, e3, e']
            simp only [Int.natCast_zero, Int.add_zero] at ih' ⊢
            exact ih'
  have := lp t.length 0 (by omega)
  simp only [List.take_zero, wct, Int.natCast_zero] at this
  simp (disch := omega) only [q_206_0, q_206_1, q_206_3, q_206_4, q_206_8, q_206_9, q_206_12, q_206_14, q_206_15, q_206_16, q_206_18, q_206_19, q_206_20, q_206_22, q_206_25, q_206_27, q_206_30, q_206_31, q_206_32, q_206_34, q_206_35, q_206_36, q_206_37, q_206_38, q_206_40, q_206_43, q_206_44, q_206_47, q_206_48, q_206_49, q_206_51, q_206_54, q_206_57, q_206_59, q_206_e, va_rf_s, bz_0, bz_1, bz_ok, bb_ok, Nat.add_assoc, w_lt, w_add, w_sub, w_mul, w_div, em_def, w_eq, w_inT, ↓ilt_t, ↓ilt_f, ↓ieq_t, ↓ieq_f, ntT, w_b, w_ix, kx_v, kx_n, kl_n, kl_i, kl_r, kl_o, inA_i, inA_s, inA_b, inA_z, inA_l, inA_0, inA_4, inA_5, inA_6, inA_7, inA_8, inA_9, inA_10, al_0, al_1, al_2, al_4, al_5, al_98, bsP_2, bsP_3, wr_same, wr_wr, wr_ne, up_same, up_ne, Nat.reduceAdd, Int.reduceAdd, Int.reduceSub, Int.reduceMul, Int.reduceLT, Int.reduceLE, Int.reduceEq, Int.reduceNeg, Int.reduceToNat, Nat.reduceLT, Nat.reduceLeDiff, Nat.reduceEqDiff, ↓reduceIte, true_and, and_true, not_true_eq_false, not_false_eq_true, eq_self, or_true, true_or, or_false, false_or, if_true, if_false, Int.toNat_natCast, w_ite, Nat.add_zero, reduceCtorEq, ne_eq]
  exact this
end

/-! the voice as others use it -/
def rsOk (rs : List Rl) : Prop := ∀ ρ ∈ rs, rlOk ρ
def bOk (t : List Int) : Prop := ∀ b ∈ t, b = 32 ∨ (97 ≤ b ∧ b ≤ 122)
theorem cat_ok {t p : List Int} {g : Bool} (h1 : bOk t) (h2 : bOk p) : bOk (cat t g p) := by
  intro b hb
  unfold cat at hb
  split at hb
  · rcases List.mem_append.mp hb with h | h
    · exact h1 b h
    · rcases List.mem_cons.mp h with h | h
      · exact Or.inl h
      · exact h2 b h
  · rcases List.mem_append.mp hb with h | h
    · exact h1 b h
    · exact h2 b h
theorem evIs_ok {ask : Int → Option EV} {z : Int} (ha : ∀ q x, ask q = some x → bOk x.1) : ∀ (its : List It) (t : List Int) (g : Bool) (a : Int) (h : Nat) (x : EV), (∀ it ∈ its, itOk it) → bOk t → evIs ask z its t g a h = some x → bOk x.1
  | [], t, g, a, h, x, _, ht, e => by cases e; exact ht
  | it :: r, t, g, a, h, x, hi, ht, e => by
    have hi' := fun it' h => hi it' (List.mem_cons_of_mem _ h)
    unfold evIs at e
    split at e
    · exact evIs_ok ha r _ _ _ _ _ hi' ht e
    · split at e
      · rename_i h0
        split at e
        · cases e
        · refine evIs_ok ha r _ _ _ _ _ hi' (cat_ok ht ?_) e
          rcases hi it (List.mem_cons_self ..) with ⟨_, _, _, _, h⟩ | ⟨h, -⟩ | ⟨h, -⟩
          · exact fun b hb => Or.inr (h b hb)
          · omega
          · omega
      · split at e
        · exact evIs_ok ha r _ _ _ _ _ hi' ht e
        · split at e
          · cases e
          · rename_i p b k hq
            split at e
            · exact evIs_ok ha r _ _ _ _ _ hi' ht e
            · split at e
              · cases e
              · exact evIs_ok ha r _ _ _ _ _ hi' (cat_ok ht (ha _ _ hq)) e
theorem ev_ok {rs : List Rl} (hr : rsOk rs) : ∀ (f : Nat) (z : Int) (x : EV), ev rs f z = some x → bOk x.1
  | 0, _, _, h => nomatch h
  | f + 1, z, x, h => by
    obtain ⟨-, -, k, ρ, -, h4, h5⟩ := ev_in h
    exact evIs_ok (fun q x hx => ev_ok hr f q x hx) _ _ _ _ _ _ (hr ρ (List.mem_of_getElem? h4)).2.2.2.2.2.2.2.2.2 (by intro b hb; cases hb) h5
theorem RsAt.ok {S : SH} {I : MI} {L : ML} {R : MR} {v : Nat} {rs : List Rl} (h : RsAt S I L R v rs) : rsOk rs := by
  intro ρ hρ
  obtain ⟨i, hi, rfl⟩ := List.getElem_of_mem hρ
  obtain ⟨r, -, -, h3⟩ := h.2.2 i hi
  have := h3.2.2.2.2.2.2.2.2.2
  rw [List.getD_eq_getElem?_getD, List.getElem?_eq_getElem hi] at this
  exact this
/-- what is said of a number, without its count -/
def T (rs : List Rl) (n : Int) : Option (List Int) := (sd rs n).map (fun x => x.1)
theorem T_ok {rs : List Rl} (hr : rsOk rs) {n : Int} {t : List Int} (h : T rs n = some t) : bOk t ∧ t.length ≤ 100 := by
  unfold T at h
  obtain ⟨⟨t', a⟩, h1, rfl⟩ := Option.map_eq_some_iff.mp h
  obtain ⟨k, h2, -⟩ := sd_ev h1
  exact ⟨ev_ok hr _ _ _ h2, ev_len h2⟩
theorem lexc_0 : ∀ {s t : List Int}, (∀ b ∈ s, 0 ≤ b ∧ b < 256) → (∀ b ∈ t, 0 ≤ b ∧ b < 256) → (lexc s t = 0 ↔ s = t)
  | [], [], _, _ => ⟨fun _ => rfl, fun _ => rfl⟩
  | [], y :: t, _, _ => by
    refine ⟨fun h => ?_, fun h => by cases h⟩
    unfold lexc at h; rw [List.length_cons] at h; omega
  | x :: s, [], _, _ => by
    refine ⟨fun h => ?_, fun h => by cases h⟩
    unfold lexc at h; rw [List.length_cons] at h; omega
  | x :: s, y :: t, hs, ht => by
    have hx := hs x (List.mem_cons_self ..)
    have hy := ht y (List.mem_cons_self ..)
    have ih := lexc_0 (s := s) (t := t) (fun b hb => hs b (List.mem_cons_of_mem _ hb)) (fun b hb => ht b (List.mem_cons_of_mem _ hb))
    unfold lexc
    by_cases h : x % 256 - y % 256 = 0
    · rw [if_pos h, ih]
      have : x = y := by omega
      subst this
      exact ⟨fun h => by rw [h], fun h => by cases h; rfl⟩
    · rw [if_neg h]
      exact ⟨fun h' => absurd h' h, fun h' => by cases h'; omega⟩
theorem bOk.bd {t : List Int} (h : bOk t) : ∀ b ∈ t, 0 ≤ b ∧ b < 256 := fun b hb => by rcases h b hb with h | h <;> omega
/-- what a call of a voice's leaves -/
def vp (rs : List Rl) (I I' : MI) (v : Nat) : Prop :=
  (∀ a, (a < v ∨ v + 17 ≤ a) → I' a = I a) ∧ I' v 3 = I v 3 ∧ MInv rs I' v ∧ UInv rs I' v ∧ (∀ s : Nat, s ≤ 1000 → gi I (v + 3) s = s → gi I' (v + 3) s = s) ∧ (∀ k, ubit I v k = true → ubit I' v k = true)
theorem vp.refl {rs : List Rl} {I : MI} {v : Nat} (hM : MInv rs I v) (hU : UInv rs I v) : vp rs I I v := ⟨fun _ _ => rfl, rfl, hM, hU, fun _ _ h => h, fun _ h => h⟩
theorem vp.trans {rs : List Rl} {I I1 I2 : MI} {v : Nat} (h : vp rs I I1 v) (h' : vp rs I1 I2 v) : vp rs I I2 v := by
  obtain ⟨a1, a2, a3, a4, a5, a6⟩ := h
  obtain ⟨b1, b2, b3, b4, b5, b6⟩ := h'
  exact ⟨fun a ha => (b1 a ha).trans (a1 a ha), b2.trans a2, b3, b4, fun s hs h => b5 s hs (a5 s hs h), fun k h => b6 k (a6 k h)⟩
theorem vpost.vp {rs : List Rl} {I I' : MI} {v dep : Nat} (h : vpost rs I I' v dep) : vp rs I I' v := by
  obtain ⟨a1, a2, a3, a4, a5, a6, a7, a8, a9⟩ := h
  exact ⟨a1, a2, a4, a5, a8, a9⟩
/-- the memo has a number -/
def Kn (I : MI) (v : Nat) (n : Int) : Prop := gi I (v + 3) (sl n) = n
theorem Kn.said {rs : List Rl} {I : MI} {v : Nat} {n : Int} {t : List Int} {a : Int} (hM : MInv rs I v) (h : Kn I v n) (h0 : 0 ≤ n) (hs : sd rs n = some (t, a)) : I (v + 4) (sl n) = w t.length ∧ gi I (v + 4) (sl n) = t.length ∧ gi I (v + 5) (sl n) = a ∧ Txt (I (v + 2)) (sl n * 100) t ∧ mSaid I (v + 1) n = true ∧ t.length ≤ 100 ∧ 0 ≤ a ∧ a ≤ 1000 := by
  have hm := hM (sl n) (sl_bd n)
  unfold mOk at hm
  unfold Kn at h
  rw [h] at hm
  rcases hm with hm | ⟨h1, h2, -, hm | ⟨x, x1, x2, x3, x4, x5, x6⟩⟩
  · omega
  · rw [hm.2] at hs; cases hs
  · have hp := ev_pos _ _ _ x1
    have hl := ev_len x1
    have := ev_sd x1 hp.2.2 x2
    rw [hs] at this
    cases this
    have h4 := gi_eq x3 (by omega) (by omega)
    refine ⟨x3, h4, gi_eq x4 (by omega) (by omega), x6, ?_, hl, hp.1, x2⟩
    unfold mSaid
    simp only [Nat.add_assoc, Nat.reduceAdd, Bool.and_eq_true, decide_eq_true_eq, Bool.not_eq_true', decide_eq_false_iff_not]
    exact ⟨⟨h0, h⟩, by omega⟩
theorem Kn.silent {rs : List Rl} {I : MI} {v : Nat} {n : Int} (hM : MInv rs I v) (h : Kn I v n) (h0 : 0 ≤ n) (hs : sd rs n = none) : gi I (v + 4) (sl n) = -1 ∧ mSaid I (v + 1) n = false := by
  have hm := hM (sl n) (sl_bd n)
  unfold mOk at hm
  unfold Kn at h
  rw [h] at hm
  rcases hm with hm | ⟨h1, h2, -, hm | ⟨x, x1, x2, x3, x4, x5, x6⟩⟩
  · omega
  · refine ⟨hm.1, ?_⟩
    unfold mSaid
    simp only [Nat.add_assoc, Nat.reduceAdd]
    rw [hm.1]
    simp
  · have hp := ev_pos _ _ _ x1
    rw [ev_sd x1 hp.2.2 x2] at hs
    cases hs
theorem sd_out {rs : List Rl} {n : Int} (h : n < 0 ∨ 999999999 < n) : sd rs n = none := by
  unfold sd; rw [say_2 h]
theorem opl_0 {I : MI} {v : Nat} : opl I v 0 = [] := rfl
theorem chn_nil {rs : List Rl} {n : Int} : chn rs [] n := fun m hm => nomatch hm
/-- nothing is said any more, but what is so -/
theorem vp.silent {rs : List Rl} {I I1 : MI} {v : Nat} {n : Int} (h : vp rs I I1 v) (n1 : 0 ≤ n) (n2 : n ≤ 999999999) (hs : sd rs n = none) (hu : ∀ k2, k2 < rs.length → ubit I1 v k2 = false → sd (rs.eraseIdx k2) n = none) : vp rs I (wr (wr I1 (v + 3) (up (I1 (v + 3)) (sl n) (w n))) (v + 4) (up (I1 (v + 4)) (sl n) (w (-1)))) v := by
  obtain ⟨a1, a2, a3, a4, a5, a6⟩ := h
  have e3 : ∀ s, gi (wr (wr I1 (v + 3) (up (I1 (v + 3)) (sl n) (w n))) (v + 4) (up (I1 (v + 4)) (sl n) (w (-1)))) (v + 3) s = if s = sl n then n else gi I1 (v + 3) s := fun s => by
    rw [gi_ne (by omega), gi_up (by omega) (by omega)]
  have e4 : ∀ s, gi (wr (wr I1 (v + 3) (up (I1 (v + 3)) (sl n) (w n))) (v + 4) (up (I1 (v + 4)) (sl n) (w (-1)))) (v + 4) s = if s = sl n then -1 else gi I1 (v + 4) s := fun s => by
    rw [gi_wr, up_ti (by decide) (by decide)]; rfl
  have eb : ∀ j, ubit (wr (wr I1 (v + 3) (up (I1 (v + 3)) (sl n) (w n))) (v + 4) (up (I1 (v + 4)) (sl n) (w (-1)))) v j = ubit I1 v j := fun j => by
    unfold ubit; rw [wr_ne (by omega), wr_ne (by omega)]
  refine ⟨fun a ha => by rw [wr_ne (by omega), wr_ne (by omega)]; exact a1 a ha, by rw [wr_ne (by omega), wr_ne (by omega)]; exact a2, fun s hs' => ?_, fun k2 hk2 hu2 s hs' h0 => ?_, fun s hs' h0 => ?_, fun j hj => ?_⟩
  · unfold mOk
    rw [e3, e4, wr_ne (show v + 2 ≠ v + 4 by omega), wr_ne (show v + 2 ≠ v + 3 by omega), wr_ne (show v + 5 ≠ v + 4 by omega), wr_ne (show v + 5 ≠ v + 3 by omega), wr_ne (show v + 6 ≠ v + 4 by omega), wr_ne (show v + 6 ≠ v + 3 by omega), wr_same]
    by_cases c : s = sl n
    · subst c
      rw [if_pos rfl, if_pos rfl]
      exact Or.inr ⟨n1, n2, rfl, Or.inl ⟨rfl, hs⟩⟩
    · rw [if_neg c, if_neg c, up_ne c]
      exact a3 s hs'
  · rw [eb] at hu2
    rw [e3] at h0 ⊢
    rw [e4]
    by_cases c : s = sl n
    · subst c
      rw [if_pos rfl, if_pos rfl]
      exact ⟨fun _ => hu k2 hk2 hu2, fun h => absurd rfl h⟩
    · rw [if_neg c] at h0 ⊢
      rw [if_neg c]
      exact a4 k2 hk2 hu2 s hs' h0
  · rw [e3]
    by_cases c : s = sl n
    · rw [if_pos c]
      have := sl_c n
      unfold slot at this
      split at this
      · have := Int.emod_nonneg n (show (151 : Int) ≠ 0 by decide); omega
      · split at this <;> omega
    · rw [if_neg c]; exact a5 s hs' h0
  · rw [eb]; exact a6 j hj
section
variable {d : Nat} {Q : XO → Hp → Prop} {S : SH} {I : MI} {L : ML} {R : MR} {G : MG} {A : Hp}
theorem sp_84 {v : Nat} {rs : List Rl} {n : Int} (hV : VoiS S v) (hR : RsAt S I L R v rs) (hM : MInv rs I v) (hU : UInv rs I v) (n1 : -2147483648 ≤ n) (n2 : n < 2147483648)
    (hQ : ∀ I' : MI, vp rs I I' v → (0 ≤ n → n ≤ 999999999 → Kn I' v n) → Q (.inl (some (.int (bz (sd rs n).isSome)))) (mk S I' L R G)) :
    XC (d + 67) 84 [.ref v, .int (w n)] (mk S I L R G) Q := by
  obtain ⟨g0, g1, g2, g3, g4, g5, g6, g7⟩ := id hV
  have s28 := fun {d : Nat} {Q : XO → Hp → Prop} => sp_28 (d := d) (Q := Q) (I := I) (L := L) (R := R) (G := G) g1 n1 n2
  by_cases c1 : n < 0
  · rw [sd_out (Or.inl c1)] at hQ
    simp (disch := omega) only [q_84_0, q_84_1, q_84_4, q_84_5, q_84_7, q_84_10, q_84_11, q_84_12, q_84_13, q_84_16, q_84_17, q_84_20, q_84_23, q_84_24, q_84_25, q_84_28, q_84_29, q_84_30, q_84_33, q_84_34, q_84_35, q_84_36, q_84_39, q_84_42, q_84_43, q_84_46, q_84_47, q_84_50, q_84_51, q_84_54, q_84_55, q_84_58, q_84_e, va_rf_s, bz_0, bz_1, bz_ok, bb_ok, Nat.add_assoc, w_lt, w_add, w_sub, w_mul, w_div, em_def, w_eq, w_inT, ↓ilt_t, ↓ilt_f, ↓ieq_t, ↓ieq_f, ntT, w_b, w_ix, kx_v, kx_n, kl_n, kl_i, kl_r, kl_o, inA_i, inA_s, inA_b, inA_z, inA_l, inA_0, inA_4, inA_5, inA_6, inA_7, inA_8, inA_9, inA_10, al_0, al_1, al_2, al_4, al_5, al_98, bsP_2, bsP_3, wr_same, wr_wr, wr_ne, up_same, up_ne, Nat.reduceAdd, Int.reduceAdd, Int.reduceSub, Int.reduceMul, Int.reduceLT, Int.reduceLE, Int.reduceEq, Int.reduceNeg, Int.reduceToNat, Nat.reduceLT, Nat.reduceLeDiff, Nat.reduceEqDiff, ↓reduceIte, true_and, and_true, not_true_eq_false, not_false_eq_true, eq_self, or_true, true_or, or_false, false_or, if_true, if_false, Int.toNat_natCast, w_ite, Nat.add_zero, reduceCtorEq, ne_eq]
    exact hQ I (vp.refl hM hU) (fun h => by omega)
  · by_cases c2 : 999999999 < n
    · rw [sd_out (Or.inr c2)] at hQ
      simp (disch := omega) only [q_84_0, q_84_1, q_84_4, q_84_5, q_84_7, q_84_10, q_84_11, q_84_12, q_84_13, q_84_16, q_84_17, q_84_20, q_84_23, q_84_24, q_84_25, q_84_28, q_84_29, q_84_30, q_84_33, q_84_34, q_84_35, q_84_36, q_84_39, q_84_42, q_84_43, q_84_46, q_84_47, q_84_50, q_84_51, q_84_54, q_84_55, q_84_58, q_84_e, va_rf_s, bz_0, bz_1, bz_ok, bb_ok, Nat.add_assoc, w_lt, w_add, w_sub, w_mul, w_div, em_def, w_eq, w_inT, ↓ilt_t, ↓ilt_f, ↓ieq_t, ↓ieq_f, ntT, w_b, w_ix, kx_v, kx_n, kl_n, kl_i, kl_r, kl_o, inA_i, inA_s, inA_b, inA_z, inA_l, inA_0, inA_4, inA_5, inA_6, inA_7, inA_8, inA_9, inA_10, al_0, al_1, al_2, al_4, al_5, al_98, bsP_2, bsP_3, wr_same, wr_wr, wr_ne, up_same, up_ne, Nat.reduceAdd, Int.reduceAdd, Int.reduceSub, Int.reduceMul, Int.reduceLT, Int.reduceLE, Int.reduceEq, Int.reduceNeg, Int.reduceToNat, Nat.reduceLT, Nat.reduceLeDiff, Nat.reduceEqDiff, ↓reduceIte, true_and, and_true, not_true_eq_false, not_false_eq_true, eq_self, or_true, true_or, or_false, false_or, if_true, if_false, Int.toNat_natCast, w_ite, Nat.add_zero, reduceCtorEq, ne_eq]
      exact hQ I (vp.refl hM hU) (fun _ h => by omega)
    · have m1 : 0 ≤ n := by omega
      have m2 : n ≤ 999999999 := by omega
      -- the end: what the memo has
      have fin : ∀ I1 : MI, vp rs I I1 v → Kn I1 v n → XX (d + 67) 84 50 [some (.ref v), some (.int (w n))] [] (mk S I1 L R G) Q := by
        intro I1 hp hk
        have s30 := fun {d : Nat} {Q : XO → Hp → Prop} => sp_30 (d := d) (Q := Q) (I := I1) (L := L) (R := R) (G := G) g1 n1 n2
        simp (disch := omega) only [q_84_0, q_84_1, q_84_4, q_84_5, q_84_7, q_84_10, q_84_11, q_84_12, q_84_13, q_84_16, q_84_17, q_84_20, q_84_23, q_84_24, q_84_25, q_84_28, q_84_29, q_84_30, q_84_33, q_84_34, q_84_35, q_84_36, q_84_39, q_84_42, q_84_43, q_84_46, q_84_47, q_84_50, q_84_51, q_84_54, q_84_55, q_84_58, q_84_e, va_rf_s, bz_0, bz_1, bz_ok, bb_ok, Nat.add_assoc, w_lt, w_add, w_sub, w_mul, w_div, em_def, w_eq, w_inT, ↓ilt_t, ↓ilt_f, ↓ieq_t, ↓ieq_f, ntT, w_b, w_ix, kx_v, kx_n, kl_n, kl_i, kl_r, kl_o, inA_i, inA_s, inA_b, inA_z, inA_l, inA_0, inA_4, inA_5, inA_6, inA_7, inA_8, inA_9, inA_10, al_0, al_1, al_2, al_4, al_5, al_98, bsP_2, bsP_3, wr_same, wr_wr, wr_ne, up_same, up_ne, Nat.reduceAdd, Int.reduceAdd, Int.reduceSub, Int.reduceMul, Int.reduceLT, Int.reduceLE, Int.reduceEq, Int.reduceNeg, Int.reduceToNat, Nat.reduceLT, Nat.reduceLeDiff, Nat.reduceEqDiff, ↓reduceIte, true_and, and_true, not_true_eq_false, not_false_eq_true, eq_self, or_true, true_or, or_false, false_or, if_true, if_false, Int.toNat_natCast, w_ite, Nat.add_zero, reduceCtorEq, ne_eq, g0, g1.1, s30]
        have hQ := hQ I1 hp (fun _ _ => hk)
        cases hs : sd rs n with
        | none =>
          rw [hs] at hQ
          rw [(Kn.silent hp.2.2.1 hk m1 hs).2]
          exact hQ
        | some x =>
          rw [hs] at hQ
          rw [(Kn.said (t := x.1) (a := x.2) hp.2.2.1 hk m1 hs).2.2.2.2.1]
          exact hQ
      by_cases ck : gi I (v + 3) (sl n) = n
      · simp (disch := omega) only [q_84_0, q_84_1, q_84_4, q_84_5, q_84_7, q_84_10, q_84_11, q_84_12, q_84_13, q_84_16, q_84_17, q_84_20, q_84_23, q_84_24, q_84_25, q_84_28, q_84_29, q_84_30, q_84_33, q_84_34, q_84_35, q_84_36, q_84_39, q_84_42, q_84_43, q_84_46, q_84_47, q_84_51, q_84_54, q_84_55, q_84_58, q_84_e, va_rf_s, bz_0, bz_1, bz_ok, bb_ok, Nat.add_assoc, w_lt, w_add, w_sub, w_mul, w_div, em_def, w_eq, w_inT, ↓ilt_t, ↓ilt_f, ↓ieq_t, ↓ieq_f, ntT, w_b, w_ix, kx_v, kx_n, kl_n, kl_i, kl_r, kl_o, inA_i, inA_s, inA_b, inA_z, inA_l, inA_0, inA_4, inA_5, inA_6, inA_7, inA_8, inA_9, inA_10, al_0, al_1, al_2, al_4, al_5, al_98, bsP_2, bsP_3, wr_same, wr_wr, wr_ne, up_same, up_ne, Nat.reduceAdd, Int.reduceAdd, Int.reduceSub, Int.reduceMul, Int.reduceLT, Int.reduceLE, Int.reduceEq, Int.reduceNeg, Int.reduceToNat, Nat.reduceLT, Nat.reduceLeDiff, Nat.reduceEqDiff, ↓reduceIte, true_and, and_true, not_true_eq_false, not_false_eq_true, eq_self, or_true, true_or, or_false, false_or, if_true, if_false, Int.toNat_natCast, w_ite, Nat.add_zero, reduceCtorEq, ne_eq, g0, g1.1, s28]
        rw [if_neg (by rw [decide_eq_true m1, decide_eq_true ck]; decide)]
        exact fin I (vp.refl hM hU) ck
      · simp (disch := omega) only [q_84_0, q_84_1, q_84_4, q_84_5, q_84_7, q_84_10, q_84_11, q_84_12, q_84_13, q_84_16, q_84_17, q_84_20, q_84_23, q_84_24, q_84_25, q_84_28, q_84_29, q_84_30, q_84_33, q_84_34, q_84_35, q_84_36, q_84_39, q_84_42, q_84_43, q_84_46, q_84_47, q_84_51, q_84_54, q_84_55, q_84_58, q_84_e, va_rf_s, bz_0, bz_1, bz_ok, bb_ok, Nat.add_assoc, w_lt, w_add, w_sub, w_mul, w_div, em_def, w_eq, w_inT, ↓ilt_t, ↓ilt_f, ↓ieq_t, ↓ieq_f, ntT, w_b, w_ix, kx_v, kx_n, kl_n, kl_i, kl_r, kl_o, inA_i, inA_s, inA_b, inA_z, inA_l, inA_0, inA_4, inA_5, inA_6, inA_7, inA_8, inA_9, inA_10, al_0, al_1, al_2, al_4, al_5, al_98, bsP_2, bsP_3, wr_same, wr_wr, wr_ne, up_same, up_ne, Nat.reduceAdd, Int.reduceAdd, Int.reduceSub, Int.reduceMul, Int.reduceLT, Int.reduceLE, Int.reduceEq, Int.reduceNeg, Int.reduceToNat, Nat.reduceLT, Nat.reduceLeDiff, Nat.reduceEqDiff, ↓reduceIte, true_and, and_true, not_true_eq_false, not_false_eq_true, eq_self, or_true, true_or, or_false, false_or, if_true, if_false, Int.toNat_natCast, w_ite, Nat.add_zero, reduceCtorEq, ne_eq, g0, g1.1, s28]
        rw [if_pos (by rw [decide_eq_false ck, Bool.and_false])]
        have hI1 : ∀ a, a ≠ v → wr I v (up (up (I v) 10 (w 0)) 9 (w 0)) a = I a := fun a ha => wr_ne ha
        have hI2 : ∀ j, j ≠ 9 → j ≠ 10 → wr I v (up (up (I v) 10 (w 0)) 9 (w 0)) v j = I v j := fun j hj hj2 => by rw [wr_same, up_ne hj, up_ne hj2]
        have hI3 : wr I v (up (up (I v) 10 (w 0)) 9 (w 0)) v 9 = w 0 ∧ wr I v (up (up (I v) 10 (w 0)) 9 (w 0)) v 10 = w 0 := by
          rw [wr_same, up_same, up_ne (by decide), up_same]; exact ⟨rfl, rfl⟩
        generalize wr I v (up (up (I v) 10 (w 0)) 9 (w 0)) = I1 at hI1 hI2 hI3 ⊢
        have hb1 : ∀ k, ubit I1 v k = ubit I v k := fun k => by unfold ubit; rw [hI2 4 (by decide) (by decide)]
        have hM1 : MInv rs I1 v := hM.congr (hI1 _ (by omega)) (hI1 _ (by omega)) (hI1 _ (by omega)) (hI1 _ (by omega)) (hI1 _ (by omega))
        have hU1 : UInv rs I1 v := hU.congr (fun k h => by rw [hb1]; exact h) (hI1 _ (by omega)) (hI1 _ (by omega))
        have hp1 : vp rs I I1 v := ⟨fun a ha => hI1 a (by omega), hI2 3 (by decide) (by decide), hM1, hU1, fun s _ h => by rw [gi_congr (hI1 _ (by omega))]; exact h, fun k h => by rw [hb1]; exact h⟩
        have g9 : gi I1 v 9 = 0 := gi_eq hI3.1 (by decide) (by decide)
        refine sp_89 (rs := rs) hV 30 (d + 60) I1 0 n _ (by omega) rfl (hR.congr hp1.1 hp1.2.1) hM1 hU1 (Or.inl hI3.2) (by omega) (by omega) (fun _ => g9) n1 n2 (by rw [opl_0]; exact chn_nil) (fun k _ _ => by rw [opl_0]; exact chn_nil) (fun o I2 hp hb ha => ?_)
        rw [opl_0, g9, if_pos rfl] at hb ha
        have hp12 := hp1.trans hp.vp
        simp only [Int.add_zero] at hb ha
        cases hS : say rs 30 [] 0 n with
        | inl y =>
          rw [hS] at hb
          obtain ⟨rfl, -, -, -, hk, -⟩ := hb
          simp (disch := omega) only [q_84_0, q_84_1, q_84_4, q_84_5, q_84_7, q_84_10, q_84_11, q_84_12, q_84_13, q_84_16, q_84_17, q_84_20, q_84_23, q_84_24, q_84_25, q_84_28, q_84_29, q_84_30, q_84_33, q_84_34, q_84_35, q_84_36, q_84_39, q_84_42, q_84_43, q_84_46, q_84_47, q_84_51, q_84_54, q_84_55, q_84_58, q_84_e, va_rf_s, bz_0, bz_1, bz_ok, bb_ok, Nat.add_assoc, w_lt, w_add, w_sub, w_mul, w_div, em_def, w_eq, w_inT, ↓ilt_t, ↓ilt_f, ↓ieq_t, ↓ieq_f, ntT, w_b, w_ix, kx_v, kx_n, kl_n, kl_i, kl_r, kl_o, inA_i, inA_s, inA_b, inA_z, inA_l, inA_0, inA_4, inA_5, inA_6, inA_7, inA_8, inA_9, inA_10, al_0, al_1, al_2, al_4, al_5, al_98, bsP_2, bsP_3, wr_same, wr_wr, wr_ne, up_same, up_ne, Nat.reduceAdd, Int.reduceAdd, Int.reduceSub, Int.reduceMul, Int.reduceLT, Int.reduceLE, Int.reduceEq, Int.reduceNeg, Int.reduceToNat, Nat.reduceLT, Nat.reduceLeDiff, Nat.reduceEqDiff, ↓reduceIte, true_and, and_true, not_true_eq_false, not_false_eq_true, eq_self, or_true, true_or, or_false, false_or, if_true, if_false, Int.toNat_natCast, w_ite, Nat.add_zero, reduceCtorEq, ne_eq]
          exact fin I2 hp12 hk
        | inr l =>
          rw [hS] at hb ha
          obtain ⟨rfl, -⟩ := hb
          have hsd : sd rs n = none := by unfold sd; rw [hS]
          have s34 := fun {d : Nat} {Q : XO → Hp → Prop} => sp_34 (d := d) (Q := Q) (I := I2) (L := L) (R := R) (G := G) g1 m1 n2
          simp (disch := omega) only [q_84_0, q_84_1, q_84_4, q_84_5, q_84_7, q_84_10, q_84_11, q_84_12, q_84_13, q_84_16, q_84_17, q_84_20, q_84_23, q_84_24, q_84_25, q_84_28, q_84_29, q_84_30, q_84_33, q_84_34, q_84_35, q_84_36, q_84_39, q_84_42, q_84_43, q_84_46, q_84_47, q_84_51, q_84_54, q_84_55, q_84_58, q_84_e, va_rf_s, bz_0, bz_1, bz_ok, bb_ok, Nat.add_assoc, w_lt, w_add, w_sub, w_mul, w_div, em_def, w_eq, w_inT, ↓ilt_t, ↓ilt_f, ↓ieq_t, ↓ieq_f, ntT, w_b, w_ix, kx_v, kx_n, kl_n, kl_i, kl_r, kl_o, inA_i, inA_s, inA_b, inA_z, inA_l, inA_0, inA_4, inA_5, inA_6, inA_7, inA_8, inA_9, inA_10, al_0, al_1, al_2, al_4, al_5, al_98, bsP_2, bsP_3, wr_same, wr_wr, wr_ne, up_same, up_ne, Nat.reduceAdd, Int.reduceAdd, Int.reduceSub, Int.reduceMul, Int.reduceLT, Int.reduceLE, Int.reduceEq, Int.reduceNeg, Int.reduceToNat, Nat.reduceLT, Nat.reduceLeDiff, Nat.reduceEqDiff, ↓reduceIte, true_and, and_true, not_true_eq_false, not_false_eq_true, eq_self, or_true, true_or, or_false, false_or, if_true, if_false, Int.toNat_natCast, w_ite, Nat.add_zero, reduceCtorEq, ne_eq, g0, g1.1, s34]
          refine fin _ (hp12.silent m1 m2 hsd (fun k hk hu => ?_)) ?_
          · have := ha k hk hu
            dsimp only at this
            unfold sd
            cases hS' : say (rs.eraseIdx k) 30 [] 0 n with
            | inl y => rw [hS'] at this; cases this
            | inr l => rfl
          · unfold Kn
            rw [gi_ne (by omega), gi_up (by omega) (by omega), if_pos rfl]
end

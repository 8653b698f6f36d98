/-! the model's words -/
def cwA : List Int → List Int → List Int
  | [], a => a
  | b :: r, a => if b = 32 then cwA r [] else cwA r (a ++ [b])
def dnA : List Int → List Int → List (List Int)
  | [], _ => []
  | b :: r, a => if b = 32 then (if a = [] then dnA r [] else a :: dnA r []) else dnA r (a ++ [b])
def lw (c : List Int) : List (List Int) := if c = [] then [] else [c]
theorem wdsA_dn : ∀ (r a : List Int), wdsA r a = dnA r a ++ lw (cwA r a)
  | [], a => by unfold wdsA dnA cwA lw; rfl
  | b :: r, a => by
    unfold wdsA dnA cwA
    by_cases hb : b = 32
    · rw [if_pos hb, if_pos hb, if_pos hb]
      by_cases ha : a = []
      · rw [if_pos ha, if_pos ha]; exact wdsA_dn r []
      · rw [if_neg ha, if_neg ha, List.cons_append]; rw [wdsA_dn r []]
    · rw [if_neg hb, if_neg hb, if_neg hb]; exact wdsA_dn r (a ++ [b])
theorem cwA_snoc : ∀ (r a : List Int) (x : Int), cwA (r ++ [x]) a = if x = 32 then [] else cwA r a ++ [x]
  | [], a, x => by
    show (if x = 32 then [] else a ++ [x]) = _
    rfl
  | b :: r, a, x => by
    rw [List.cons_append]
    unfold cwA
    by_cases hb : b = 32
    · rw [if_pos hb, if_pos hb]; exact cwA_snoc r [] x
    · rw [if_neg hb, if_neg hb]; exact cwA_snoc r (a ++ [b]) x
theorem dnA_snoc : ∀ (r a : List Int) (x : Int), dnA (r ++ [x]) a = if x = 32 then dnA r a ++ lw (cwA r a) else dnA r a
  | [], a, x => by
    show (if x = 32 then (if a = [] then [] else a :: []) else []) = if x = 32 then [] ++ lw a else []
    unfold lw; rfl
  | b :: r, a, x => by
    rw [List.cons_append]
    unfold dnA cwA
    by_cases hb : b = 32
    · rw [if_pos hb, if_pos hb, if_pos hb]
      by_cases ha : a = []
      · rw [if_pos ha, if_pos ha]; exact dnA_snoc r [] x
      · rw [if_neg ha, if_neg ha, dnA_snoc r [] x]
        by_cases hx : x = 32
        · rw [if_pos hx, if_pos hx]; rfl
        · rw [if_neg hx, if_neg hx]
    · rw [if_neg hb, if_neg hb, if_neg hb]; exact dnA_snoc r (a ++ [b]) x
theorem cwA_last : ∀ (r a : List Int), cwA r a = [] ↔ (match r.getLast? with | none => a = [] | some y => y = 32)
  | [], a => Iff.rfl
  | b :: r, a => by
    have key : ∀ a', cwA r a' = [] ↔ (match r.getLast? with | none => a' = [] | some y => y = 32) := cwA_last r
    unfold cwA
    cases r with
    | nil =>
      show (if b = 32 then [] else a ++ [b]) = [] ↔ b = 32
      by_cases hb : b = 32
      · rw [if_pos hb]; exact ⟨fun _ => hb, fun _ => rfl⟩
      · rw [if_neg hb]; simp [hb]
    | cons y r =>
      rw [List.getLast?_cons_cons]
      obtain ⟨u, hu⟩ : ∃ u, (y :: r).getLast? = some u := ⟨_, List.getLast?_eq_some_getLast (by simp)⟩
      rw [hu] at key ⊢
      split
      · exact key []
      · exact key (a ++ [b])
theorem wds_n : ∀ (W : List (List Int)), (∀ x ∈ W, x ≠ []) → 2 * W.length ≤ wsum W
  | [], _ => Nat.le_refl _
  | x :: W, h => by
    have ih := wds_n W (fun y hy => h y (List.mem_cons_of_mem _ hy))
    have hx : 0 < x.length := List.length_pos_iff.mpr (h x (List.mem_cons_self ..))
    rw [wsum_cons, List.length_cons]
    omega
theorem wsum_mem : ∀ (W : List (List Int)) (x : List Int), x ∈ W → x.length + 1 ≤ wsum W
  | y :: W, x, h => by
    rw [wsum_cons]
    rcases List.mem_cons.mp h with rfl | h
    · omega
    · have := wsum_mem W x h; omega
theorem wds_b {t : List Int} (ht : bOk t) (hl : t.length ≤ 100) : (wds t).length ≤ 50 ∧ ∀ x ∈ wds t, x.length ≤ 100 := by
  have h1 := wdsA_sum t []
  have h2 := wds_n (wds t) (fun x hx => (wds_ok ht x hx).1)
  rw [List.length_nil] at h1
  have e : wdsA t [] = wds t := rfl
  rw [e] at h1
  exact ⟨by omega, fun x hx => by have := wsum_mem _ x hx; omega⟩
theorem tx_ok {rs : List Rl} (hr : rsOk rs) (n : Nat) : bOk (tx rs n) ∧ (tx rs n).length ≤ 100 := by
  unfold tx
  cases h : T rs (n : Int) with
  | none => exact ⟨(fun b hb => nomatch hb), Nat.zero_le _⟩
  | some t => exact T_ok hr h
theorem wl_b {rs : List Rl} (hr : rsOk rs) : ∀ n, (wl_ rs n).length ≤ 50 * n ∧ ∀ x ∈ wl_ rs n, x.length ≤ 100
  | 0 => ⟨Nat.le_refl _, fun x hx => nomatch hx⟩
  | n + 1 => by
    have ih := wl_b hr n
    have ht := tx_ok hr n
    have hw := wds_b ht.1 ht.2
    show (wl_ rs n ++ wds (tx rs n)).length ≤ _ ∧ _
    rw [List.length_append]
    refine ⟨by omega, fun x hx => ?_⟩
    rcases List.mem_append.mp hx with hx | hx
    · exact ih.2 x hx
    · exact hw.2 x hx
theorem WRes_perm {V W : List (List Int)} {u m l : Nat} (hp : V.Perm W) (h : WRes V u m l) : WRes W u m l := by
  obtain ⟨⟨D, d1, d2, d3⟩, e, f⟩ := h
  refine ⟨⟨D, d1, fun x => by rw [d2, hp.mem_iff], d3⟩, fun hW => e (by rw [hW] at hp; exact hp.eq_nil), fun hW => ?_⟩
  obtain ⟨x, x1, x2, x3, x4⟩ := f (fun hV => hW (by rw [hV] at hp; exact hp.symm.eq_nil))
  exact ⟨x, hp.mem_iff.mp x1, by rw [← hp.count_eq]; exact x2, x3, fun y hy => by rw [← hp.count_eq]; exact x4 y (hp.mem_iff.mpr hy)⟩
theorem WRes_step {P : List (List Int)} {z : List Int} {u m l : Nat} (hs : ∀ x ∈ P, lexc x z ≤ 0) (h : WRes P u m l) : WRes (P ++ [z]) (if z ∈ P then u else u + 1) (if m < P.count z + 1 then P.count z + 1 else m) (if m < P.count z + 1 then z.length else l) := by
  obtain ⟨⟨D, d1, d2, d3⟩, e, f⟩ := h
  have hc : ∀ y, (P ++ [z]).count y = P.count y + (if z = y then 1 else 0) := fun y => by
    rw [List.count_append, List.count_singleton]
    congr 1
    by_cases c : z = y
    · rw [if_pos c, if_pos (by rw [c]; simp)]
    · rw [if_neg c, if_neg (by simpa using c)]
  refine ⟨?_, fun h => by simp at h, fun _ => ?_⟩
  · by_cases c : z ∈ P
    · rw [if_pos c]
      refine ⟨D, d1, fun x => ?_, d3⟩
      rw [d2, List.mem_append, List.mem_singleton]
      exact ⟨Or.inl, fun h => h.elim id (fun h => by rw [h]; exact c)⟩
    · rw [if_neg c]
      refine ⟨z :: D, List.nodup_cons.mpr ⟨fun h => c ((d2 z).mp h), d1⟩, fun x => ?_, by rw [List.length_cons, d3]⟩
      rw [List.mem_cons, d2, List.mem_append, List.mem_singleton]
      exact ⟨fun h => h.elim Or.inr Or.inl, fun h => h.elim Or.inr Or.inl⟩
  · by_cases c : m < P.count z + 1
    · rw [if_pos c, if_pos c]
      refine ⟨z, List.mem_append_right _ (List.mem_singleton.mpr rfl), by rw [hc, if_pos rfl], rfl, fun y hy => ?_⟩
      rw [hc]
      by_cases cy : z = y
      · rw [if_pos cy]
        right
        refine ⟨by rw [cy], ?_⟩
        have := lexc_neg z z
        rw [← cy]; omega
      · rw [if_neg cy]
        rcases List.mem_append.mp hy with hy | hy
        · obtain ⟨x, x1, x2, x3, x4⟩ := f (fun hP => by rw [hP] at hy; exact nomatch hy)
          have := x4 y hy
          left; omega
        · exact absurd (List.mem_singleton.mp hy).symm cy
    · rw [if_neg c, if_neg c]
      have hP : P ≠ [] := fun hP => by
        have := (e hP).1
        omega
      obtain ⟨x, x1, x2, x3, x4⟩ := f hP
      have hxz : z ≠ x := fun h => by rw [h, x2] at c; omega
      refine ⟨x, List.mem_append_left _ x1, by rw [hc, if_neg hxz]; exact x2, x3, fun y hy => ?_⟩
      rw [hc]
      by_cases cy : z = y
      · rw [if_pos cy]
        have hxs := hs x x1
        rw [← cy]
        by_cases cm : P.count z + 1 = m
        · exact Or.inr ⟨cm, hxs⟩
        · left; omega
      · rw [if_neg cy, Nat.add_zero]
        rcases List.mem_append.mp hy with hy | hy
        · exact x4 y hy
        · exact absurd (List.mem_singleton.mp hy).symm cy
/-- the words that are laid, and how they are numbered -/
def WdM (I : MI) (m : Nat) (V : List (List Int)) (P : Nat → Nat) : Prop := I m 49 = w V.length ∧ ∀ i, i < V.length → I (m + 6674) i = w (P i) ∧ I (m + 6675) i = w (V.getD i []).length ∧ I (m + 6677) i = w i ∧ Txt (I (m + 6577)) (P i) (V.getD i []) ∧ P i + (V.getD i []).length ≤ 100100
def WdF (I I' : MI) (m : Nat) : Prop := (∀ x, x ≠ m → (x < m + 6674 ∨ m + 6678 ≤ x) → I' x = I x) ∧ ∀ j, j ≠ 49 → I' m j = I m j
section
variable {d : Nat} {Q : XO → Hp → Prop} {S : SH} {I : MI} {L : ML} {R : MR} {G : MG} {A : Hp}
variable {m : Nat} {s : St} {two : Bool}
theorem sp_233 {a b p q : Nat} {t u : List Int} (hL : MLay S R m) (ha : a < 50052) (hb : b < 50052) (a1 : I (m + 6674) a = w p) (a2 : I (m + 6675) a = w t.length) (a3 : Txt (I (m + 6577)) p t) (a4 : p + t.length ≤ 100100) (b1 : I (m + 6674) b = w q) (b2 : I (m + 6675) b = w u.length) (b3 : Txt (I (m + 6577)) q u) (b4 : q + u.length ≤ 100100) (ht : bOk t) (hu : bOk u) : XC (d + 1) 233 [.ref m, .int (w a), .int (w b)] (mk S I L R G) Q ↔ Q (.inl (some (.int (w (lexc t u))))) (mk S I L R G) := by
  have hm := hL.1
  have k1 := hL.2.2.2.2.2.2.2.2.1.1
  obtain ⟨-, w1, w2, -⟩ := hL.2.2.2.2.2.2.2.2.2.2
  have s156 := fun {d : Nat} {Q : XO → Hp → Prop} {A : Hp} => sp_156 (d := d) (Q := Q) (A := A) (a := (t.length : Int)) (b := (u.length : Int)) (by omega) (by omega) (by omega) (by omega)
  rw [show min (t.length : Int) (u.length : Int) = ((min t.length u.length : Nat) : Int) by omega] at s156
  have lp : ∀ (j c : Nat), c + j = min t.length u.length → (XX (d + 1) 233 19 [some (.ref m), some (.int (w a)), some (.int (w b)), some (.int (w (min t.length u.length : Nat))), some (.int (w c))] [] (mk S I L R G) Q ↔ Q (.inl (some (.int (w (lexc (t.drop c) (u.drop c)))))) (mk S I L R G)) := by
    intro j
    induction j with
    | zero =>
      intro c hc
      rw [lexc_end (show c = min t.length u.length by omega), q_233_19]
      simp (disch := omega) only [q_233_0, q_233_1, q_233_4, q_233_5, q_233_6, q_233_7, q_233_10, q_233_11, q_233_12, q_233_15, q_233_16, q_233_17, q_233_21, q_233_22, q_233_25, q_233_26, q_233_29, q_233_30, q_233_33, q_233_34, q_233_35, q_233_37, q_233_38, q_233_39, q_233_40, q_233_43, q_233_44, q_233_47, q_233_48, q_233_49, q_233_51, q_233_52, q_233_53, q_233_56, q_233_57, q_233_60, q_233_61, q_233_64, q_233_65, q_233_66, q_233_68, q_233_69, q_233_70, q_233_71, q_233_74, q_233_75, q_233_78, q_233_79, q_233_80, q_233_82, q_233_83, q_233_84, q_233_85, q_233_86, q_233_89, q_233_92, q_233_93, q_233_96, q_233_97, q_233_98, q_233_99, q_233_102, q_233_103, q_233_104, q_233_105, q_233_e, va_rf_s, bz_0, bz_1, bz_ok, bb_ok, Nat.add_assoc, w_lt, w_add, w_sub, w_mul, w_div, em_def, w_eq, w_inT, ↓ilt_t, ↓ilt_f, ↓ieq_t, ↓ieq_f, ntT, w_b, w_ix, kx_v, kx_n, kl_n, kl_i, kl_r, kl_o, inA_i, inA_s, inA_b, inA_z, inA_l, inA_0, inA_4, inA_5, inA_6, inA_7, inA_8, inA_9, inA_10, al_0, al_1, al_2, al_4, al_5, al_98, bsP_2, bsP_3, wr_same, wr_wr, wr_ne, up_same, up_ne, Nat.reduceAdd, Int.reduceAdd, Int.reduceSub, Int.reduceMul, Int.reduceLT, Int.reduceLE, Int.reduceEq, Int.reduceNeg, Int.reduceToNat, Nat.reduceLT, Nat.reduceLeDiff, Nat.reduceEqDiff, ↓reduceIte, true_and, and_true, not_true_eq_false, not_false_eq_true, eq_self, or_true, true_or, or_false, false_or, if_true, if_false, Int.toNat_natCast, w_ite, Nat.add_zero, reduceCtorEq, ne_eq, hm, w2, a2, b2]
    | succ j ih =>
      intro c hc
      have h1 : c < t.length := by omega
      have h2 : c < u.length := by omega
      have ih' := ih (c + 1) (by omega)
      simp only [Int.natCast_add, Int.natCast_one] at ih'
      have ea := a3 c h1
      have eb := b3 c h2
      have g1 := ht.get h1
      have g2 := hu.get h2
      have e6 : ((p : Int) + c).toNat = p + c := by omega
      have e7 : ((q : Int) + c).toNat = q + c := by omega
      rw [drop_cons h1, drop_cons h2, q_233_19]
      unfold lexc
      by_cases c0 : t.getD c 0 = u.getD c 0
      · rw [if_pos (by omega)]
        simp (disch := omega) only [q_233_0, q_233_1, q_233_4, q_233_5, q_233_6, q_233_7, q_233_10, q_233_11, q_233_12, q_233_15, q_233_16, q_233_17, q_233_21, q_233_22, q_233_25, q_233_26, q_233_29, q_233_30, q_233_33, q_233_34, q_233_35, q_233_37, q_233_38, q_233_39, q_233_40, q_233_43, q_233_44, q_233_47, q_233_48, q_233_49, q_233_51, q_233_52, q_233_53, q_233_56, q_233_57, q_233_60, q_233_61, q_233_64, q_233_65, q_233_66, q_233_68, q_233_69, q_233_70, q_233_71, q_233_74, q_233_75, q_233_78, q_233_79, q_233_80, q_233_82, q_233_83, q_233_84, q_233_85, q_233_86, q_233_89, q_233_92, q_233_93, q_233_96, q_233_97, q_233_98, q_233_99, q_233_102, q_233_103, q_233_104, q_233_105, q_233_e, va_rf_s, bz_0, bz_1, bz_ok, bb_ok, Nat.add_assoc, w_lt, w_add, w_sub, w_mul, w_div, em_def, w_eq, w_inT, ↓ilt_t, ↓ilt_f, ↓ieq_t, ↓ieq_f, ntT, w_b, w_ix, kx_v, kx_n, kl_n, kl_i, kl_r, kl_o, inA_i, inA_s, inA_b, inA_z, inA_l, inA_0, inA_4, inA_5, inA_6, inA_7, inA_8, inA_9, inA_10, al_0, al_1, al_2, al_4, al_5, al_98, bsP_2, bsP_3, wr_same, wr_wr, wr_ne, up_same, up_ne, Nat.reduceAdd, Int.reduceAdd, Int.reduceSub, Int.reduceMul, Int.reduceLT, Int.reduceLE, Int.reduceEq, Int.reduceNeg, Int.reduceToNat, Nat.reduceLT, Nat.reduceLeDiff, Nat.reduceEqDiff, ↓reduceIte, true_and, and_true, not_true_eq_false, not_false_eq_true, eq_self, or_true, true_or, or_false, false_or, if_true, if_false, Int.toNat_natCast, w_ite, Nat.add_zero, reduceCtorEq, ne_eq, hm, k1, w1, a1, b1, e6, e7, ea, eb]
        exact ih'
      · rw [if_neg (by omega), show t.getD c 0 % 256 - u.getD c 0 % 256 = t.getD c 0 - u.getD c 0 by omega]
        simp (disch := omega) only [q_233_0, q_233_1, q_233_4, q_233_5, q_233_6, q_233_7, q_233_10, q_233_11, q_233_12, q_233_15, q_233_16, q_233_17, q_233_21, q_233_22, q_233_25, q_233_26, q_233_29, q_233_30, q_233_33, q_233_34, q_233_35, q_233_37, q_233_38, q_233_39, q_233_40, q_233_43, q_233_44, q_233_47, q_233_48, q_233_49, q_233_51, q_233_52, q_233_53, q_233_56, q_233_57, q_233_60, q_233_61, q_233_64, q_233_65, q_233_66, q_233_68, q_233_69, q_233_70, q_233_71, q_233_74, q_233_75, q_233_78, q_233_79, q_233_80, q_233_82, q_233_83, q_233_84, q_233_85, q_233_86, q_233_89, q_233_92, q_233_93, q_233_96, q_233_97, q_233_98, q_233_99, q_233_102, q_233_103, q_233_104, q_233_105, q_233_e, va_rf_s, bz_0, bz_1, bz_ok, bb_ok, Nat.add_assoc, w_lt, w_add, w_sub, w_mul, w_div, em_def, w_eq, w_inT, ↓ilt_t, ↓ilt_f, ↓ieq_t, ↓ieq_f, ntT, w_b, w_ix, kx_v, kx_n, kl_n, kl_i, kl_r, kl_o, inA_i, inA_s, inA_b, inA_z, inA_l, inA_0, inA_4, inA_5, inA_6, inA_7, inA_8, inA_9, inA_10, al_0, al_1, al_2, al_4, al_5, al_98, bsP_2, bsP_3, wr_same, wr_wr, wr_ne, up_same, up_ne, Nat.reduceAdd, Int.reduceAdd, Int.reduceSub, Int.reduceMul, Int.reduceLT, Int.reduceLE, Int.reduceEq, Int.reduceNeg, Int.reduceToNat, Nat.reduceLT, Nat.reduceLeDiff, Nat.reduceEqDiff, ↓reduceIte, true_and, and_true, not_true_eq_false, not_false_eq_true, eq_self, or_true, true_or, or_false, false_or, if_true, if_false, Int.toNat_natCast, w_ite, Nat.add_zero, reduceCtorEq, ne_eq, hm, k1, w1, a1, b1, e6, e7, ea, eb]
  have := lp (min t.length u.length) 0 (by omega)
  simp only [List.drop_zero, Int.natCast_zero] at this
  simp (disch := omega) only [q_233_0, q_233_1, q_233_4, q_233_5, q_233_6, q_233_7, q_233_10, q_233_11, q_233_12, q_233_15, q_233_16, q_233_17, q_233_21, q_233_22, q_233_25, q_233_26, q_233_29, q_233_30, q_233_33, q_233_34, q_233_35, q_233_37, q_233_38, q_233_39, q_233_40, q_233_43, q_233_44, q_233_47, q_233_48, q_233_49, q_233_51, q_233_52, q_233_53, q_233_56, q_233_57, q_233_60, q_233_61, q_233_64, q_233_65, q_233_66, q_233_68, q_233_69, q_233_70, q_233_71, q_233_74, q_233_75, q_233_78, q_233_79, q_233_80, q_233_82, q_233_83, q_233_84, q_233_85, q_233_86, q_233_89, q_233_92, q_233_93, q_233_96, q_233_97, q_233_98, q_233_99, q_233_102, q_233_103, q_233_104, q_233_105, q_233_e, va_rf_s, bz_0, bz_1, bz_ok, bb_ok, Nat.add_assoc, w_lt, w_add, w_sub, w_mul, w_div, em_def, w_eq, w_inT, ↓ilt_t, ↓ilt_f, ↓ieq_t, ↓ieq_f, ntT, w_b, w_ix, kx_v, kx_n, kl_n, kl_i, kl_r, kl_o, inA_i, inA_s, inA_b, inA_z, inA_l, inA_0, inA_4, inA_5, inA_6, inA_7, inA_8, inA_9, inA_10, al_0, al_1, al_2, al_4, al_5, al_98, bsP_2, bsP_3, wr_same, wr_wr, wr_ne, up_same, up_ne, Nat.reduceAdd, Int.reduceAdd, Int.reduceSub, Int.reduceMul, Int.reduceLT, Int.reduceLE, Int.reduceEq, Int.reduceNeg, Int.reduceToNat, Nat.reduceLT, Nat.reduceLeDiff, Nat.reduceEqDiff, ↓reduceIte, true_and, and_true, not_true_eq_false, not_false_eq_true, eq_self, or_true, true_or, or_false, false_or, if_true, if_false, Int.toNat_natCast, w_ite, Nat.add_zero, reduceCtorEq, ne_eq, hm, w2, a2, b2, s156]
  exact this
end

/-! more rows over raw heaps -/
section
variable {d m pc : Nat} {l : Lc} {st : List Value} {A A' : Hp} {Q : XO → Hp → Prop} {k c j a n t : Nat}
theorem rx_callV {m' kd n c : Nat} {as r fs : List Value} (h1 : t_ins m pc = some (.invokevirtual k)) (hc : t_cal (t_own m) k = some (kd, m', n)) (hj : t_jdk (t_own m) k = none) (hk : (kd == 1 || kd == 4) = true) (hp : x_pop (n + 1) st = some (.ref a :: as, r)) (hw : x_words r ≤ 8) (hl : (x_arg (.ref a :: as)).length ≤ t_maxl m') (hco : t_own m' = c) (ho : A.1 a = some (.inr (c, fs))) : XX (d + 1) m pc l st A Q ↔ XC d m' (.ref a :: as) A (XK (d + 1) m pc l r Q) := by
  subst hco
  refine XX_cal h1 ?_ rfl rfl ?_
  · unfold x_loc
    show (match x_mem m (.invokevirtual k) st A with | some (st', A') => some (pc + 3, l, st', A') | none => none) = none
    have : x_mem m (.invokevirtual k) st A = none := by
      show (if x_words st ≤ 100 ∧ x_jV (t_jdk (t_own m) k) = true then x_jdk (t_own m) k st A else none) = none
      rw [hj, if_neg (fun h => by cases h.2)]
    rw [this]
  · show (match t_cal (t_own m) k with | some (kd, m', n) => (match x_pop (n + 1) st with | some (as, r) => if (kd == 1 || kd == 4) && decide (x_words r ≤ 8) && decide ((x_arg as).length ≤ t_maxl m') && x_recv A m' as then some (m', as, r) else none | none => none) | none => none) = _
    rw [hc]
    dsimp only
    rw [hp]
    dsimp only
    have hr : x_recv A m' (.ref a :: as) = true := by
      show (x_cls A a == some (t_own m')) = true
      unfold x_cls
      rw [ho]
      exact beq_self_eq_true _
    rw [if_pos (by rw [hk, decide_eq_true hw, decide_eq_true hl, hr]; rfl)]
theorem rx_ias {f : Nat → Int32} {z : Nat} {y : Int32} (h1 : t_ins m pc = some .iastore) (h2 : A.1 a = some (.inl (0, n, .inl f))) (hi : z < n) (hn : n ≤ 1000000) : XX d m pc l (.int y :: .int (w z) :: .ref a :: st) A Q ↔ XX d m (pc + 1) l st (h_set A a (.inl (0, n, .inl (up f z y)))) Q := by
  refine rx_mem h1 rfl rfl rfl rfl rfl rfl ?_
  show (x_aiS A a (w z) y).map (fun A' => (st, A')) = _
  unfold x_aiS
  rw [h2]
  have e : (w (z : Int)).toNatClampNeg = z := by have := w_ix (a := (z : Int)) (by omega) (by omega); unfold ix at this; rw [this]; rfl
  show (if (true && x_in (w z) n) = true then some (h_set A a (.inl (0, n, .inl (upd f (w (z : Int)).toNatClampNeg y)))) else none).map _ = _
  rw [if_pos (by rw [Bool.true_and]; exact (w_in (by omega) (by omega)).mpr ⟨by omega, by omega⟩), e]
  rfl
theorem rx_aas {f : Nat → Option Nat} {z y c : Nat} {fs : List Value} (h1 : t_ins m pc = some .aastore) (h2 : A.1 a = some (.inl (t, n, .inr (.inr (.inr (.inr f)))))) (h3 : A.1 y = some (.inr (c, fs))) (hok : x_aqOk t c = true) (hi : z < n) (hn : n ≤ 1000000) : XX d m pc l (.ref y :: .int (w z) :: .ref a :: st) A Q ↔ XX d m (pc + 1) l st (h_set A a (.inl (t, n, .inr (.inr (.inr (.inr (va_up f z (some y)))))))) Q := by
  refine rx_mem h1 rfl rfl rfl rfl rfl rfl ?_
  show (x_aqS A a (w z) y).map (fun A' => (st, A')) = _
  unfold x_aqS x_cls
  rw [h2, h3]
  have e : (w (z : Int)).toNatClampNeg = z := by have := w_ix (a := (z : Int)) (by omega) (by omega); unfold ix at this; rw [this]; rfl
  show (if (x_aqOk t c && x_in (w z) n) = true then some (h_set A a (.inl (t, n, .inr (.inr (.inr (.inr (va_up f (w (z : Int)).toNatClampNeg (some y)))))))) else none).map _ = _
  rw [if_pos (by rw [hok, Bool.true_and]; exact (w_in (by omega) (by omega)).mpr ⟨by omega, by omega⟩), e]
  rfl
theorem rx_mul {q : Nat} {ds : List Nat} {st' : List Value} (h1 : t_ins m pc = some (.multianewarray k q)) (h2 : t_mul (t_own m) k = some t) (h3 : x_dims q st = some (ds, st')) (h4 : ((t == 6 && q == 2) || (t == 7 && q == 3) || (t == 10 && q == 4)) = true) : XX d m pc l st A Q ↔ XX d m (pc + 4) l (.ref A.2.1 :: st') (x_multi ds t A) Q := by
  refine rx_mem h1 rfl rfl rfl rfl rfl rfl ?_
  show (match t_mul (t_own m) k, x_dims q st with | some t, some (ds, r) => if (t == 6 && q == 2) || (t == 7 && q == 3) || (t == 10 && q == 4) then some (Value.ref A.2.1 :: r, x_multi ds t A) else none | _, _ => none) = _
  rw [h2, h3]
  dsimp only
  rw [if_pos h4]
theorem x_dim0 {st : List Value} : x_dims 0 st = some ([], st) := rfl
theorem x_dim {q z : Nat} {ds : List Nat} {st' : List Value} (hz : z ≤ 5000) (h : x_dims q st = some (ds, st')) : x_dims (q + 1) (.int (w z) :: st) = some (ds ++ [z], st') := by
  have e : (w (z : Int)).toNatClampNeg = z := by have := w_ix (a := (z : Int)) (by omega) (by omega); unfold ix at this; rw [this]; rfl
  show (if w (z : Int) < 0 ∨ 5000 < (w (z : Int)).toNatClampNeg then none else (x_dims q st).map (fun y => (y.1 ++ [(w (z : Int)).toNatClampNeg], y.2))) = _
  rw [e, h, if_neg]
  · rfl
  · rw [w_0, w_lt (by omega) (by omega) (by omega) (by omega)]
    omega
end
section
variable {d : Nat} {Q : XO → Hp → Prop} {A : Hp}
/-- an object made and begun -/
theorem rx_mk {M pc k k2 c m' kd q nf n' a n : Nat} {l : Lc} {st : List Value} {cs ds out : List CE} {o : CE} (h1 : t_ins M pc = some (.new k)) (hd : t_ins M (pc + 3) = some .dup) (h2 : t_ins M (pc + 4) = some (.invokespecial k2))
    (h3 : t_new (t_own M) k = some c) (h4 : t_exc (t_own M) k = none) (hc : t_cal (t_own M) k2 = some (kd, m', 0)) (hj : t_jdk (t_own M) k2 = none) (hk : (kd == 2 || kd == 3) = true) (hw : x_words st + 1 ≤ 8) (hl : 1 ≤ t_maxl m') (ho : t_own m' = c) (hnf : t_nf.getD c 0 = nf)
    (hin : ∀ {cs : List CE} {n b : Nat} {Q : XO → Hp → Prop}, b = A.2.1 + cs.length → b = a + q → Q (.inl none) (ext A (cs ++ out) (n + n')) → XC d m' [.ref b] (ext A (cs ++ [.inr (c, t_df.getD c [])]) n) Q)
    (ea : a = A.2.1 + cs.length) (hq : (o :: ds).length = q) (hQ : XX (d + 1) M (pc + 7) l (.ref (a + q) :: st) (ext A (cs ++ o :: (ds ++ out)) (n + (nf + n'))) Q) : XX (d + 1) M pc l st (ext A (cs ++ o :: ds) n) Q := by
  have eb : a + q = A.2.1 + (cs ++ o :: ds).length := by rw [List.length_append, hq]; omega
  rw [rx_new h1 h3 h4, hnf, ext_nx ea, hq, ext_pu]
  rw [c_stk hd (st' := .ref (a + q) :: .ref (a + q) :: st) rfl]
  show XX (d + 1) M (pc + 4) _ _ _ _
  have e2 : cs ++ (o :: ds ++ [.inr (c, t_df.getD c [])]) = (cs ++ o :: ds) ++ (.inr (c, t_df.getD c []) :: []) := (List.append_assoc _ _ _).symm
  rw [e2, rx_callI h2 hc hj hk (a := a + q) (as := []) (r := .ref (a + q) :: st) rfl (by show 1 + x_words st ≤ 8; omega) hl (by rw [ext_at eb, ho])]
  refine hin eb rfl ?_
  show XX (d + 1) M (pc + 4 + 3) _ _ _ _
  rw [List.append_assoc, List.cons_append, Nat.add_assoc n]
  exact hQ
theorem mix_up {α : Type} {f g : Nat → α} {i : Nat} : up (mix f g i) i (g i) = mix f g (i + 1) := mix_s
theorem in_269 {cs ds : List CE} {n a z : Nat} {x : Int32} {f : Nat → Int32} (ea : a = A.2.1 + cs.length) (hz : z ≤ 1000000) (hQ : Q (.inl none) (ext A (cs ++ .inl (0, z, .inl (mix f (fun _ => x) z)) :: ds) n)) : XC d 269 [.ref a, .int x] (ext A (cs ++ .inl (0, z, .inl f) :: ds) n) Q := by
  have lp : ∀ (j i : Nat), i + j = z → XX d 269 5 [some (.ref a), some (.int x), some (.int (w i)), some (.int (w z))] [] (ext A (cs ++ .inl (0, z, .inl (mix f (fun _ => x) i)) :: ds) n) Q := by
    intro j
    induction j with
    | zero =>
      intro i hi
      have : i = z := by omega
      subst this
      rw [q_269_5]
      simp (disch := omega) only [q_269_0, q_269_1, q_269_2, q_269_3, q_269_4, q_269_6, q_269_7, q_269_10, q_269_11, q_269_12, q_269_13, q_269_14, q_269_17, q_269_20, q_269_e, va_rf_s, bz_0, bz_1, bz_ok, bb_ok, Nat.add_assoc, w_lt, w_add, w_sub, w_mul, w_div, em_def, w_eq, w_inT, ↓ilt_t, ↓ilt_f, ↓ieq_t, ↓ieq_f, ntT, w_b, w_ix, kx_v, kx_n, kl_n, kl_i, kl_r, kl_o, inA_i, inA_s, inA_b, inA_z, inA_l, inA_0, inA_4, inA_5, inA_6, inA_7, inA_8, inA_9, inA_10, al_0, al_1, al_2, al_4, al_5, al_98, bsP_2, bsP_3, wr_same, wr_wr, wr_ne, up_same, up_ne, Nat.reduceAdd, Int.reduceAdd, Int.reduceSub, Int.reduceMul, Int.reduceLT, Int.reduceLE, Int.reduceEq, Int.reduceNeg, Int.reduceToNat, Nat.reduceLT, Nat.reduceLeDiff, Nat.reduceEqDiff, ↓reduceIte, true_and, and_true, not_true_eq_false, not_false_eq_true, eq_self, or_true, true_or, or_false, false_or, if_true, if_false, Int.toNat_natCast, w_ite, Nat.add_zero, reduceCtorEq, ne_eq]
      exact hQ
    | succ j ih =>
      intro i hi
      rw [q_269_5]
      simp (disch := omega) only [q_269_0, q_269_1, q_269_2, q_269_3, q_269_4, q_269_6, q_269_7, q_269_10, q_269_11, q_269_12, q_269_13, q_269_14, q_269_17, q_269_20, q_269_e, va_rf_s, bz_0, bz_1, bz_ok, bb_ok, Nat.add_assoc, w_lt, w_add, w_sub, w_mul, w_div, em_def, w_eq, w_inT, ↓ilt_t, ↓ilt_f, ↓ieq_t, ↓ieq_f, ntT, w_b, w_ix, kx_v, kx_n, kl_n, kl_i, kl_r, kl_o, inA_i, inA_s, inA_b, inA_z, inA_l, inA_0, inA_4, inA_5, inA_6, inA_7, inA_8, inA_9, inA_10, al_0, al_1, al_2, al_4, al_5, al_98, bsP_2, bsP_3, wr_same, wr_wr, wr_ne, up_same, up_ne, Nat.reduceAdd, Int.reduceAdd, Int.reduceSub, Int.reduceMul, Int.reduceLT, Int.reduceLE, Int.reduceEq, Int.reduceNeg, Int.reduceToNat, Nat.reduceLT, Nat.reduceLeDiff, Nat.reduceEqDiff, ↓reduceIte, true_and, and_true, not_true_eq_false, not_false_eq_true, eq_self, or_true, true_or, or_false, false_or, if_true, if_false, Int.toNat_natCast, w_ite, Nat.add_zero, reduceCtorEq, ne_eq]
      rw [rx_ias i_269_13 (ext_at ea) (by omega) hz, ext_put ea]
      simp (disch := omega) only [q_269_0, q_269_1, q_269_2, q_269_3, q_269_4, q_269_6, q_269_7, q_269_10, q_269_11, q_269_12, q_269_13, q_269_14, q_269_17, q_269_20, q_269_e, va_rf_s, bz_0, bz_1, bz_ok, bb_ok, Nat.add_assoc, w_lt, w_add, w_sub, w_mul, w_div, em_def, w_eq, w_inT, ↓ilt_t, ↓ilt_f, ↓ieq_t, ↓ieq_f, ntT, w_b, w_ix, kx_v, kx_n, kl_n, kl_i, kl_r, kl_o, inA_i, inA_s, inA_b, inA_z, inA_l, inA_0, inA_4, inA_5, inA_6, inA_7, inA_8, inA_9, inA_10, al_0, al_1, al_2, al_4, al_5, al_98, bsP_2, bsP_3, wr_same, wr_wr, wr_ne, up_same, up_ne, Nat.reduceAdd, Int.reduceAdd, Int.reduceSub, Int.reduceMul, Int.reduceLT, Int.reduceLE, Int.reduceEq, Int.reduceNeg, Int.reduceToNat, Nat.reduceLT, Nat.reduceLeDiff, Nat.reduceEqDiff, ↓reduceIte, true_and, and_true, not_true_eq_false, not_false_eq_true, eq_self, or_true, true_or, or_false, false_or, if_true, if_false, Int.toNat_natCast, w_ite, Nat.add_zero, reduceCtorEq, ne_eq]
      have := ih (i + 1) (by omega)
      rw [← mix_s (n := i)] at this
      simp only [Int.natCast_add, Int.natCast_one] at this
      exact this
  have := lp z 0 (by omega)
  rw [mix_0] at this
  simp (disch := omega) only [q_269_0, q_269_1, q_269_2, q_269_3, q_269_4, q_269_6, q_269_7, q_269_10, q_269_11, q_269_12, q_269_13, q_269_14, q_269_17, q_269_20, q_269_e, va_rf_s, bz_0, bz_1, bz_ok, bb_ok, Nat.add_assoc, w_lt, w_add, w_sub, w_mul, w_div, em_def, w_eq, w_inT, ↓ilt_t, ↓ilt_f, ↓ieq_t, ↓ieq_f, ntT, w_b, w_ix, kx_v, kx_n, kl_n, kl_i, kl_r, kl_o, inA_i, inA_s, inA_b, inA_z, inA_l, inA_0, inA_4, inA_5, inA_6, inA_7, inA_8, inA_9, inA_10, al_0, al_1, al_2, al_4, al_5, al_98, bsP_2, bsP_3, wr_same, wr_wr, wr_ne, up_same, up_ne, Nat.reduceAdd, Int.reduceAdd, Int.reduceSub, Int.reduceMul, Int.reduceLT, Int.reduceLE, Int.reduceEq, Int.reduceNeg, Int.reduceToNat, Nat.reduceLT, Nat.reduceLeDiff, Nat.reduceEqDiff, ↓reduceIte, true_and, and_true, not_true_eq_false, not_false_eq_true, eq_self, or_true, true_or, or_false, false_or, if_true, if_false, Int.toNat_natCast, w_ite, Nat.add_zero, reduceCtorEq, ne_eq]
  rw [rx_al i_269_3 (ext_at ea) (by decide)]
  simp (disch := omega) only [q_269_0, q_269_1, q_269_2, q_269_3, q_269_4, q_269_6, q_269_7, q_269_10, q_269_11, q_269_12, q_269_13, q_269_14, q_269_17, q_269_20, q_269_e, va_rf_s, bz_0, bz_1, bz_ok, bb_ok, Nat.add_assoc, w_lt, w_add, w_sub, w_mul, w_div, em_def, w_eq, w_inT, ↓ilt_t, ↓ilt_f, ↓ieq_t, ↓ieq_f, ntT, w_b, w_ix, kx_v, kx_n, kl_n, kl_i, kl_r, kl_o, inA_i, inA_s, inA_b, inA_z, inA_l, inA_0, inA_4, inA_5, inA_6, inA_7, inA_8, inA_9, inA_10, al_0, al_1, al_2, al_4, al_5, al_98, bsP_2, bsP_3, wr_same, wr_wr, wr_ne, up_same, up_ne, Nat.reduceAdd, Int.reduceAdd, Int.reduceSub, Int.reduceMul, Int.reduceLT, Int.reduceLE, Int.reduceEq, Int.reduceNeg, Int.reduceToNat, Nat.reduceLT, Nat.reduceLeDiff, Nat.reduceEqDiff, ↓reduceIte, true_and, and_true, not_true_eq_false, not_false_eq_true, eq_self, or_true, true_or, or_false, false_or, if_true, if_false, Int.toNat_natCast, w_ite, Nat.add_zero, reduceCtorEq, ne_eq]
  exact this
end
/-! arrays of arrays as lists of cells -/
def fl (g : Nat → List CE) : Nat → List CE
  | 0 => []
  | i + 1 => fl g i ++ g i
theorem l_fl {g : Nat → List CE} {k : Nat} (h : ∀ i, (g i).length = k) : ∀ n, (fl g n).length = n * k
  | 0 => (Nat.zero_mul _).symm
  | n + 1 => by show (fl g n ++ g n).length = _; rw [List.length_append, l_fl h n, h, Nat.succ_mul]
def ml : List Nat → Nat → Nat → List CE
  | [], _, _ => []
  | [n], t, _ => [x_arr0 t n]
  | n :: (k :: r), t, a => .inl (t, n, .inr (.inr (.inr (.inr (fun i => if i < n then some (a + 1 + i * x_msz (k :: r)) else none))))) :: fl (fun i => ml (k :: r) (x_sub t) (a + 1 + i * x_msz (k :: r))) n
def x_mzu : List Nat → Nat
  | [] => 0
  | [n] => n
  | n :: (k :: r) => n + n * x_mzu (k :: r)
theorem l_ml : ∀ (ds : List Nat) (t a : Nat), (ml ds t a).length = x_msz ds
  | [], _, _ => rfl
  | [n], _, _ => rfl
  | n :: (k :: r), t, a => by
    show (_ :: fl _ n).length = 1 + n * x_msz (k :: r)
    rw [List.length_cons, l_fl (fun i => l_ml (k :: r) _ _), Nat.add_comm]
theorem mul_ext {A : Hp} : ∀ (ds : List Nat) (t : Nat) (cs : List CE) (n : Nat), x_multi ds t (ext A cs n) = ext A (cs ++ ml ds t (A.2.1 + cs.length)) (n + x_mzu ds)
  | [], _, cs, n => by show ext A cs n = ext A (cs ++ []) (n + 0); rw [List.append_nil]; rfl
  | [z], t, cs, n => ext_push
  | z :: (k :: r), t, cs, n => by
    have ih := mul_ext (A := A) (k :: r) (x_sub t)
    show x_iter (x_multi (k :: r) (x_sub t)) z (h_push (ext A cs n) _ z) = _
    rw [ext_push]
    have lp : ∀ (o : CE) (j : Nat), x_iter (x_multi (k :: r) (x_sub t)) j (ext A (cs ++ [o]) (n + z)) = ext A ((cs ++ [o]) ++ fl (fun i => ml (k :: r) (x_sub t) (A.2.1 + cs.length + 1 + i * x_msz (k :: r))) j) (n + z + j * x_mzu (k :: r)) := by
      intro o j
      induction j with
      | zero => show ext A _ _ = ext A (_ ++ []) _; rw [List.append_nil, Nat.zero_mul]; rfl
      | succ j ihj =>
        show x_multi (k :: r) (x_sub t) (x_iter _ j _) = _
        have e : A.2.1 + ((cs ++ [o]) ++ fl (fun i => ml (k :: r) (x_sub t) (A.2.1 + cs.length + 1 + i * x_msz (k :: r))) j).length = A.2.1 + cs.length + 1 + j * x_msz (k :: r) := by
          rw [List.length_append, List.length_append, l_fl (fun i => l_ml (k :: r) _ _)]
          show A.2.1 + (cs.length + 1 + _) = _
          omega
        have e2 : n + z + (j + 1) * x_mzu (k :: r) = n + z + j * x_mzu (k :: r) + x_mzu (k :: r) := by rw [Nat.succ_mul]; omega
        rw [ihj, ih, e, e2, List.append_assoc (cs ++ [o])]
        rfl
    refine (lp _ z).trans ?_
    have e3 : n + z + z * x_mzu (k :: r) = n + x_mzu (z :: k :: r) := by show _ = n + (z + z * x_mzu (k :: r)); omega
    rw [e3, List.append_assoc]
    rfl
theorem mul_ext' {A : Hp} {cs ds : List CE} {n a t q u : Nat} {o : CE} {zs : List Nat} (ea : a = A.2.1 + cs.length) (hq : (o :: ds).length = q) (hu : x_mzu zs = u) : x_multi zs t (ext A (cs ++ o :: ds) n) = ext A (cs ++ o :: (ds ++ ml zs t (a + q))) (n + u) := by
  rw [mul_ext, hu, List.append_assoc, List.length_append, hq, ← Nat.add_assoc, ← ea]
  rfl
theorem rx_mk0 {d : Nat} {Q : XO → Hp → Prop} {A : Hp} {M pc k k2 c m' kd nf n' b n : Nat} {l : Lc} {st : List Value} {cs out : List CE} (h1 : t_ins M pc = some (.new k)) (hd : t_ins M (pc + 3) = some .dup) (h2 : t_ins M (pc + 4) = some (.invokespecial k2))
    (h3 : t_new (t_own M) k = some c) (h4 : t_exc (t_own M) k = none) (hc : t_cal (t_own M) k2 = some (kd, m', 0)) (hj : t_jdk (t_own M) k2 = none) (hk : (kd == 2 || kd == 3) = true) (hw : x_words st + 1 ≤ 8) (hl : 1 ≤ t_maxl m') (ho : t_own m' = c) (hnf : t_nf.getD c 0 = nf)
    (eb : b = A.2.1 + cs.length)
    (hin : ∀ {Q : XO → Hp → Prop}, Q (.inl none) (ext A (cs ++ out) (n + nf + n')) → XC d m' [.ref b] (ext A (cs ++ [.inr (c, t_df.getD c [])]) (n + nf)) Q)
    (hQ : XX (d + 1) M (pc + 7) l (.ref b :: st) (ext A (cs ++ out) (n + nf + n')) Q) : XX (d + 1) M pc l st (ext A cs n) Q := by
  rw [rx_new h1 h3 h4, hnf, ext_push, ext_next, ← eb]
  rw [c_stk hd (st' := .ref b :: .ref b :: st) rfl]
  show XX (d + 1) M (pc + 4) _ _ _ _
  rw [rx_callI h2 hc hj hk (a := b) (as := []) (r := .ref b :: st) rfl (by show 1 + x_words st ≤ 8; omega) hl (by rw [ext_at eb, ho])]
  refine hin ?_
  exact hQ

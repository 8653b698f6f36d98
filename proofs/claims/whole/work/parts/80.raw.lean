/-! instructions over any heap: what constructors do -/
theorem hp1 {A : Hp} {e : CE} {n x : Nat} (h : x ≠ A.2.1) : (h_push A e n).1 x = A.1 x := if_neg h
theorem hp2 {A : Hp} {e : CE} {n x : Nat} (h : x = A.2.1) : (h_push A e n).1 x = some e := if_pos h
theorem hp3 {A : Hp} {e : CE} {n : Nat} : (h_push A e n).2 = (A.2.1 + 1, A.2.2.1 + n, A.2.2.2) := rfl
theorem hs1 {A : Hp} {e : CE} {a x : Nat} (h : x ≠ a) : (h_set A a e).1 x = A.1 x := if_neg h
theorem hs2 {A : Hp} {e : CE} {a x : Nat} (h : x = a) : (h_set A a e).1 x = some e := if_pos h
theorem hs3 {A : Hp} {e : CE} {a : Nat} : (h_set A a e).2 = A.2 := rfl
section
variable {d m pc : Nat} {l : Lc} {st : List Value} {A A' : Hp} {Q : XO → Hp → Prop} {k c j a n t : Nat}
theorem rx_mem {i : Instr} {st' : List Value} {A' : Hp} (h1 : t_ins m pc = some i) (h2 : x_stk i st = none) (h3 : x_lcl i l st = none) (h4 : x_br i pc st = none) (h5 : x_fin m i st = none) (h6 : x_thr m i l st A = none) (h7 : x_cal (t_own m) i st A = none) (hm : x_mem m i st A = some (st', A')) : XX d m pc l st A Q ↔ XX d m (pc + x_len i) l st' A' Q := by
  rw [XX_mem h1 h2 h3 h4 h5 h6 h7]
  constructor
  · rintro ⟨z, hz, h⟩
    rw [hm] at hz
    cases hz
    exact h
  · exact fun h => ⟨_, hm, h⟩
theorem rx_new (h1 : t_ins m pc = some (.new k)) (h2 : t_new (t_own m) k = some c) (h3 : t_exc (t_own m) k = none) : XX d m pc l st A Q ↔ XX d m (pc + 3) l (.ref A.2.1 :: st) (h_push A (.inr (c, t_df.getD c [])) (t_nf.getD c 0)) Q := by
  refine rx_mem h1 rfl rfl rfl rfl ?_ rfl ?_
  · show (if l.length = t_maxl m ∧ x_words st ≤ 8 then (t_exc (t_own m) k).map (fun E => (E, h_lost A 6)) else none) = none
    rw [h3]
    split <;> rfl
  · show (match t_new (t_own m) k with | some c => _ | none => none) = _
    rw [h2]
theorem rx_put {v : Value} {fs : List Value} (h1 : t_ins m pc = some (.putfield k)) (h2 : t_fld (t_own m) k = some (c, j)) (h3 : A.1 a = some (.inr (c, fs))) (h4 : j < fs.length) (h5 : (x_fit (t_ft c j) v && (!t_fin c j || (t_isi m && c == t_own m))) = true) : XX d m pc l (v :: .ref a :: st) A Q ↔ XX d m (pc + 3) l st (h_set A a (.inr (c, fs.set j v))) Q := by
  refine rx_mem h1 rfl rfl rfl rfl rfl rfl ?_
  show (match t_fld (t_own m) k, v :: Value.ref a :: st with | some (c, j), v :: .ref a :: r => if x_fit (t_ft c j) v && (!t_fin c j || (t_isi m && c == t_own m)) then (x_fldS A a c j v).map (fun A' => (r, A')) else none | _, _ => none) = _
  rw [h2]
  show (if x_fit (t_ft c j) v && (!t_fin c j || (t_isi m && c == t_own m)) then (x_fldS A a c j v).map (fun A' => (st, A')) else none) = _
  rw [if_pos h5]
  unfold x_fldS
  rw [h3]
  show ((if c = c ∧ j < fs.length then some (h_set A a (.inr (c, fs.set j v))) else none) : Option Hp).map _ = _
  rw [if_pos ⟨rfl, h4⟩]
  rfl
theorem rx_gf {v : Value} {fs : List Value} (h1 : t_ins m pc = some (.getfield k)) (h2 : t_fld (t_own m) k = some (c, j)) (h3 : A.1 a = some (.inr (c, fs))) (h4 : fs[j]? = some v) : XX d m pc l (.ref a :: st) A Q ↔ XX d m (pc + 3) l (v :: st) A Q := by
  refine rx_mem h1 rfl rfl rfl rfl rfl rfl ?_
  show (match t_fld (t_own m) k, Value.ref a :: st with | some (c, j), .ref a :: r => (x_fld A a c j).map (fun v => (v :: r, A)) | _, _ => none) = _
  rw [h2]
  show (x_fld A a c j).map (fun v => (v :: st, A)) = _
  unfold x_fld
  rw [h3]
  show (if c = c then fs[j]? else none).map (fun v => (v :: st, A)) = _
  rw [if_pos rfl, h4]
  rfl
theorem rx_arr {ty : ArrayType} (h1 : t_ins m pc = some (.newarray ty)) (h2 : x_aty ty = some t) (hn : n ≤ 1000000) : XX d m pc l (.int (w n) :: st) A Q ↔ XX d m (pc + 2) l (.ref A.2.1 :: st) (h_push A (x_arr0 t n) n) Q := by
  refine rx_mem h1 rfl rfl rfl rfl rfl rfl ?_
  show (match x_aty ty, Value.int (w n) :: st with | some t, .int n :: r => if n < 0 ∨ 1000000 < n.toNatClampNeg then none else some (Value.ref A.2.1 :: r, h_push A (x_arr0 t n.toNatClampNeg) n.toNatClampNeg) | _, _ => none) = _
  rw [h2]
  have e : (w (n : Int)).toNatClampNeg = n := by have := w_ix (a := (n : Int)) (by omega) (by omega); unfold ix at this; rw [this]; rfl
  show (if w n < 0 ∨ 1000000 < (w (n : Int)).toNatClampNeg then none else some (Value.ref A.2.1 :: st, h_push A (x_arr0 t (w (n : Int)).toNatClampNeg) (w (n : Int)).toNatClampNeg)) = _
  rw [e, if_neg]
  rw [w_0, w_lt (by omega) (by omega) (by omega) (by omega)]
  omega
theorem rx_arrR (h1 : t_ins m pc = some (.anewarray k)) (h2 : t_new (t_own m) k = some c) (hc : (c = 6 ∧ t = 4) ∨ (c = 0 ∧ t = 5)) (hn : n ≤ 1000000) : XX d m pc l (.int (w n) :: st) A Q ↔ XX d m (pc + 3) l (.ref A.2.1 :: st) (h_push A (x_arr0 t n) n) Q := by
  refine rx_mem h1 rfl rfl rfl rfl rfl rfl ?_
  show (match t_new (t_own m) k, Value.int (w n) :: st with | some c, .int n :: r => if n < 0 ∨ 1000000 < n.toNatClampNeg then none else if c = 6 then some (Value.ref A.2.1 :: r, h_push A (x_arr0 4 n.toNatClampNeg) n.toNatClampNeg) else if c = 0 then some (Value.ref A.2.1 :: r, h_push A (x_arr0 5 n.toNatClampNeg) n.toNatClampNeg) else none | _, _ => none) = _
  rw [h2]
  have e : (w (n : Int)).toNatClampNeg = n := by have := w_ix (a := (n : Int)) (by omega) (by omega); unfold ix at this; rw [this]; rfl
  show (if w n < 0 ∨ 1000000 < (w (n : Int)).toNatClampNeg then none else if c = 6 then some (Value.ref A.2.1 :: st, h_push A (x_arr0 4 (w (n : Int)).toNatClampNeg) (w (n : Int)).toNatClampNeg) else if c = 0 then some (Value.ref A.2.1 :: st, h_push A (x_arr0 5 (w (n : Int)).toNatClampNeg) (w (n : Int)).toNatClampNeg) else none) = _
  rw [e, if_neg]
  · rcases hc with ⟨rfl, rfl⟩ | ⟨rfl, rfl⟩ <;> rfl
  · rw [w_0, w_lt (by omega) (by omega) (by omega) (by omega)]
    omega
theorem rx_al {z : (Nat → Int32) ⊕ (Nat → Int64) ⊕ (Nat → UInt32) ⊕ (Nat → UInt64) ⊕ (Nat → Option Nat)} (h1 : t_ins m pc = some .arraylength) (h2 : A.1 a = some (.inl (t, n, z))) (ht : t < 99) : XX d m pc l (.ref a :: st) A Q ↔ XX d m (pc + 1) l (.int (w n) :: st) A Q := by
  refine rx_mem h1 rfl rfl rfl rfl rfl rfl ?_
  show (x_alen A a).map (fun n => (Value.int (Int32.ofNat n) :: st, A)) = _
  unfold x_alen
  rw [h2]
  show ((if t < 99 then some n else none) : Option Nat).map _ = _
  rw [if_pos ht, ← w_nat]
  rfl
theorem rx_ia {f : Nat → Int32} {z : Int} (h1 : t_ins m pc = some .iaload) (h2 : A.1 a = some (.inl (0, n, .inl f))) (hz : 0 ≤ z) (hi : z < n) (hn : n ≤ 1000000) : XX d m pc l (.int (w z) :: .ref a :: st) A Q ↔ XX d m (pc + 1) l (.int (f z.toNat) :: st) A Q := by
  refine rx_mem h1 rfl rfl rfl rfl rfl rfl ?_
  show (x_ai A a (w z) (fun t => t == 0 || t == 98)).map (fun v => (Value.int v :: st, A)) = _
  unfold x_ai
  rw [h2]
  have e : (w z).toNatClampNeg = z.toNat := by have := w_ix (a := z) (by omega) (by omega); unfold ix at this; rw [this]
  show (if (true && x_in (w z) n) = true then some (f (w z).toNatClampNeg) else none).map _ = _
  rw [if_pos (by rw [Bool.true_and]; exact (w_in (by omega) (by omega)).mpr ⟨by omega, by omega⟩), e]
  rfl
theorem rx_jI {fs : List Value} (h1 : t_ins m pc = some (.invokespecial k)) (h2 : t_jdk (t_own m) k = some 10) (h3 : t_cal (t_own m) k = none) (h4 : A.1 a = some (.inr (c, fs))) (h5 : x_words (.ref a :: st) ≤ 100) : XX d m pc l (.ref a :: st) A Q ↔ XX d m (pc + 3) l st A Q := by
  refine rx_mem h1 rfl rfl rfl rfl rfl ?_ ?_
  · show (match t_cal (t_own m) k with | some (kd, m', n) => _ | none => none) = none
    rw [h3]
  · show (if x_words (.ref a :: st) ≤ 100 ∧ x_jI (t_jdk (t_own m) k) = true then x_jdk (t_own m) k (.ref a :: st) A else none) = _
    rw [h2, if_pos ⟨h5, rfl⟩]
    unfold x_jdk
    rw [h2]
    show (if (x_cls A a).isSome then some (st, A) else none) = _
    unfold x_cls
    rw [h4]
    rfl
theorem rx_callI {m' kd n : Nat} {as r fs : List Value} (h1 : t_ins m pc = some (.invokespecial k)) (hc : t_cal (t_own m) k = some (kd, m', n)) (hj : t_jdk (t_own m) k = none) (hk : (kd == 2 || kd == 3) = true) (hp : x_pop (n + 1) st = some (.ref a :: as, r)) (hw : x_words r ≤ 8) (hl : (x_arg (.ref a :: as)).length ≤ t_maxl m') (ho : A.1 a = some (.inr (t_own m', fs))) : XX (d + 1) m pc l st A Q ↔ XC d m' (.ref a :: as) A (XK (d + 1) m pc l r Q) := by
  refine XX_cal h1 ?_ rfl rfl ?_
  · unfold x_loc
    show (match x_mem m (.invokespecial k) st A with | some (st', A') => some (pc + 3, l, st', A') | none => none) = none
    have : x_mem m (.invokespecial k) st A = none := by
      show (if x_words st ≤ 100 ∧ x_jI (t_jdk (t_own m) k) = true then x_jdk (t_own m) k st A else none) = none
      rw [hj, if_neg (fun h => by cases h.2)]
    rw [this]
  · show (match t_cal (t_own m) k with | some (kd, m', n) => (match x_pop (n + 1) st with | some (as, r) => if (kd == 2 || kd == 3) && decide (x_words r ≤ 8) && decide ((x_arg as).length ≤ t_maxl m') && x_recv A m' as then some (m', as, r) else none | none => none) | none => none) = _
    rw [hc]
    dsimp only
    rw [hp]
    dsimp only
    have hr : x_recv A m' (.ref a :: as) = true := by
      show (x_cls A a == some (t_own m')) = true
      unfold x_cls
      rw [ho]
      exact beq_self_eq_true _
    rw [if_pos (by rw [hk, decide_eq_true hw, decide_eq_true hl, hr]; rfl)]
theorem rx_cln {f : Nat → Int32} (h1 : t_ins m pc = some (.invokevirtual 316)) (h2 : t_jdk (t_own m) 316 = some 11) (h3 : t_cal (t_own m) 316 = none) (h4 : A.1 a = some (.inl (0, n, .inl f))) (h5 : x_words (.ref a :: st) ≤ 100) : XX d m pc l (.ref a :: st) A Q ↔ XX d m (pc + 3) l (.ref A.2.1 :: st) (h_push A (.inl (0, n, .inl f)) n) Q := by
  refine rx_mem h1 rfl rfl rfl rfl rfl ?_ ?_
  · show (match t_cal (t_own m) 316 with | some (kd, m', n) => _ | none => none) = none
    rw [h3]
  · show (if x_words (.ref a :: st) ≤ 100 ∧ x_jV (t_jdk (t_own m) 316) = true then x_jdk (t_own m) 316 (.ref a :: st) A else none) = _
    rw [h2, if_pos ⟨h5, rfl⟩]
    unfold x_jdk
    rw [h2]
    show (x_cln 316 A a).map (fun A' => (Value.ref A.2.1 :: st, A')) = _
    unfold x_cln
    rw [h4]
    rfl
theorem rx_clnL {f : Nat → Int64} (h1 : t_ins m pc = some (.invokevirtual 319)) (h2 : t_jdk (t_own m) 319 = some 11) (h3 : t_cal (t_own m) 319 = none) (h4 : A.1 a = some (.inl (1, n, .inr (.inl f)))) (h5 : x_words (.ref a :: st) ≤ 100) : XX d m pc l (.ref a :: st) A Q ↔ XX d m (pc + 3) l (.ref A.2.1 :: st) (h_push A (.inl (1, n, .inr (.inl f))) n) Q := by
  refine rx_mem h1 rfl rfl rfl rfl rfl ?_ ?_
  · show (match t_cal (t_own m) 319 with | some (kd, m', n) => _ | none => none) = none
    rw [h3]
  · show (if x_words (.ref a :: st) ≤ 100 ∧ x_jV (t_jdk (t_own m) 319) = true then x_jdk (t_own m) 319 (.ref a :: st) A else none) = _
    rw [h2, if_pos ⟨h5, rfl⟩]
    unfold x_jdk
    rw [h2]
    show (x_cln 319 A a).map (fun A' => (Value.ref A.2.1 :: st, A')) = _
    unfold x_cln
    rw [h4]
    rfl
theorem rx_cc {z : (Nat → Int32) ⊕ (Nat → Int64) ⊕ (Nat → UInt32) ⊕ (Nat → UInt64) ⊕ (Nat → Option Nat)} (h1 : t_ins m pc = some (.checkcast k)) (h2 : t_mul (t_own m) k = some t) (h4 : A.1 a = some (.inl (t, n, z))) (ht : t = 0 ∨ t = 1) : XX d m pc l (.ref a :: st) A Q ↔ XX d m (pc + 3) l (.ref a :: st) A Q := by
  refine rx_mem h1 rfl rfl rfl rfl rfl rfl ?_
  show (match t_mul (t_own m) k, Value.ref a :: st with | some t, .ref a :: r => (match A.1 a with | some (.inl (u, _, _)) => if t == u && (t == 0 || t == 1) then some (Value.ref a :: r, A) else none | _ => none) | _, _ => none) = _
  rw [h2]
  show (match A.1 a with | some (.inl (u, _, _)) => if t == u && (t == 0 || t == 1) then some (Value.ref a :: st, A) else none | _ => none) = _
  rw [h4]
  show (if t == t && (t == 0 || t == 1) then some (Value.ref a :: st, A) else none) = _
  rcases ht with rfl | rfl <;> rfl
theorem rx_cp {f g : Nat → Int32} {a b n1 n2 q : Nat} (h1 : t_ins m pc = some (.invokestatic k)) (h2 : t_jdk (t_own m) k = some 7) (h3 : t_cal (t_own m) k = none) (ha : A.1 a = some (.inl (0, n1, .inl f))) (hb : A.1 b = some (.inl (0, n2, .inl g))) (hab : a ≠ b) (hq1 : q ≤ n1) (hq2 : q ≤ n2) (hq3 : q ≤ 1000000) (h5 : x_words (.int (w q) :: .int (w 0) :: .ref b :: .int (w 0) :: .ref a :: st) ≤ 100) : XX d m pc l (.int (w q) :: .int (w 0) :: .ref b :: .int (w 0) :: .ref a :: st) A Q ↔ XX d m (pc + 3) l st (h_set A b (.inl (0, n2, .inl (va_cpy f g 0 0 q)))) Q := by
  refine rx_mem h1 rfl rfl rfl rfl rfl ?_ ?_
  · show (match t_cal (t_own m) k with | some (kd, m', n) => _ | none => none) = none
    rw [h3]
  · show (if x_words (.int (w q) :: .int (w 0) :: .ref b :: .int (w 0) :: .ref a :: st) ≤ 100 ∧ x_jS (t_jdk (t_own m) k) = true then x_jdk (t_own m) k (.int (w q) :: .int (w 0) :: .ref b :: .int (w 0) :: .ref a :: st) A else none) = _
    rw [h2, if_pos ⟨h5, rfl⟩]
    unfold x_jdk
    rw [h2]
    show (x_cpI A a b (w 0) (w 0) (w q)).map (fun A' => (st, A')) = _
    unfold x_cpI
    rw [ha, hb]
    have e : (w (q : Int)).toNatClampNeg = q := by have := w_ix (a := (q : Int)) (by omega) (by omega); unfold ix at this; rw [this]; rfl
    have e0 : (w 0).toNatClampNeg = 0 := rfl
    have e1 : ¬ w (q : Int) < 0 := by rw [w_0, w_lt (by omega) (by omega) (by omega) (by omega)]; omega
    dsimp only
    rw [e, e0, decide_eq_false hab, decide_eq_false e1, decide_eq_true (show 0 + q ≤ n1 by omega), decide_eq_true (show 0 + q ≤ n2 by omega)]
    rfl
theorem rx_cpL {f g : Nat → Int64} {a b n1 n2 q : Nat} (h1 : t_ins m pc = some (.invokestatic k)) (h2 : t_jdk (t_own m) k = some 7) (h3 : t_cal (t_own m) k = none) (ha : A.1 a = some (.inl (1, n1, .inr (.inl f)))) (hb : A.1 b = some (.inl (1, n2, .inr (.inl g)))) (hab : a ≠ b) (hq1 : q ≤ n1) (hq2 : q ≤ n2) (hq3 : q ≤ 1000000) (h5 : x_words (.int (w q) :: .int (w 0) :: .ref b :: .int (w 0) :: .ref a :: st) ≤ 100) : XX d m pc l (.int (w q) :: .int (w 0) :: .ref b :: .int (w 0) :: .ref a :: st) A Q ↔ XX d m (pc + 3) l st (h_set A b (.inl (1, n2, .inr (.inl (va_cpy f g 0 0 q))))) Q := by
  refine rx_mem h1 rfl rfl rfl rfl rfl ?_ ?_
  · show (match t_cal (t_own m) k with | some (kd, m', n) => _ | none => none) = none
    rw [h3]
  · show (if x_words (.int (w q) :: .int (w 0) :: .ref b :: .int (w 0) :: .ref a :: st) ≤ 100 ∧ x_jS (t_jdk (t_own m) k) = true then x_jdk (t_own m) k (.int (w q) :: .int (w 0) :: .ref b :: .int (w 0) :: .ref a :: st) A else none) = _
    rw [h2, if_pos ⟨h5, rfl⟩]
    unfold x_jdk
    rw [h2]
    show (x_cpI A a b (w 0) (w 0) (w q)).map (fun A' => (st, A')) = _
    unfold x_cpI
    rw [ha, hb]
    have e : (w (q : Int)).toNatClampNeg = q := by have := w_ix (a := (q : Int)) (by omega) (by omega); unfold ix at this; rw [this]; rfl
    have e0 : (w 0).toNatClampNeg = 0 := rfl
    have e1 : ¬ w (q : Int) < 0 := by rw [w_0, w_lt (by omega) (by omega) (by omega) (by omega)]; omega
    show Option.map (fun A' => (st, A')) (if (!decide (a = b) && !decide (w 0 < 0) && !decide (w 0 < 0) && !decide (w (q : Int) < 0) && decide ((w 0).toNatClampNeg + (w (q : Int)).toNatClampNeg ≤ n1) && decide ((w 0).toNatClampNeg + (w (q : Int)).toNatClampNeg ≤ n2)) = true then some (h_set A b (.inl (1, n2, .inr (.inl (va_cpy f g (w 0).toNatClampNeg (w 0).toNatClampNeg (w (q : Int)).toNatClampNeg))))) else none) = _
    rw [e, e0, decide_eq_false hab, decide_eq_false e1, decide_eq_true (show 0 + q ≤ n1 by omega), decide_eq_true (show 0 + q ≤ n2 by omega)]
    rfl
end

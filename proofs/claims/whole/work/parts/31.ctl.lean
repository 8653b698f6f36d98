/-! rows of control: stack, locals, branches, calls, ends -/
section
variable {d m pc : Nat} {l l' : Lc} {st st' : List Value} {Q : XO → Hp → Prop} {A : Hp} {i : Instr}
theorem c_stk (h1 : t_ins m pc = some i) (h2 : x_stk i st = some st') : XX d m pc l st A Q ↔ XX d m (pc + x_len i) l st' A Q :=
  XX_loc (z := (pc + x_len i, l, st', A)) h1 (by unfold x_loc; rw [h2])
theorem c_lcl (h1 : t_ins m pc = some i) (h2 : x_stk i st = none) (h3 : x_lcl i l st = some (l', st')) : XX d m pc l st A Q ↔ XX d m (pc + x_len i) l' st' A Q :=
  XX_loc (z := (pc + x_len i, l', st', A)) h1 (by unfold x_loc; rw [h2, h3])
theorem c_br {pc' : Nat} (h1 : t_ins m pc = some i) (h2 : x_stk i st = none) (h3 : x_lcl i l st = none) (h4 : x_br i pc st = some (pc', st')) : XX d m pc l st A Q ↔ XX d m pc' l st' A Q :=
  XX_loc (z := (pc', l, st', A)) h1 (by unfold x_loc; rw [h2, h3, h4])
theorem c_if {P : Prop} [Decidable P] {t n : Nat} {b : Bool} (h : b = true ↔ P) : XX d m (if b = true then t else n) l st A Q ↔ if P then XX d m t l st A Q else XX d m n l st A Q := by
  by_cases hp : P
  · rw [if_pos (h.mpr hp), if_pos hp]
  · rw [if_neg (fun e => hp (h.mp e)), if_neg hp]
theorem c_ifn {P : Prop} [Decidable P] {t n : Nat} {b : Bool} (h : b = true ↔ ¬ P) : XX d m (if b = true then t else n) l st A Q ↔ if P then XX d m n l st A Q else XX d m t l st A Q := by
  by_cases hp : P
  · rw [if_neg (fun e => h.mp e hp), if_pos hp]
  · rw [if_pos (h.mpr hp), if_neg hp]
theorem x_cmp_lt {x y : Int32} : x_cmp .lt x y = true ↔ x < y := decide_eq_true_iff
theorem x_cmp_gt {x y : Int32} : x_cmp .gt x y = true ↔ y < x := decide_eq_true_iff
theorem x_cmp_ge {x y : Int32} : x_cmp .ge x y = true ↔ ¬ x < y := decide_eq_true_iff.trans Int32.not_lt.symm
theorem x_cmp_le {x y : Int32} : x_cmp .le x y = true ↔ ¬ y < x := decide_eq_true_iff.trans Int32.not_lt.symm
theorem x_cmp_eq {x y : Int32} : x_cmp .eq x y = true ↔ x = y := decide_eq_true_iff
theorem x_cmp_ne {x y : Int32} : x_cmp .ne x y = true ↔ ¬ x = y := by
  show (!decide (x = y)) = true ↔ _
  rw [Bool.not_eq_true', decide_eq_false_iff_not]
section
variable {x y : Int32} {off : Int} {t n : Nat}
theorem b_lt (h1 : t_ins m pc = some (.if_icmp .lt off)) (h2 : x_ok pc off = true) (ht : x_to pc off = t) (hn : pc + 3 = n) : XX d m pc l (.int y :: .int x :: st) A Q ↔ if x < y then XX d m t l st A Q else XX d m n l st A Q := by
  subst ht hn
  exact (c_br (pc' := if x_cmp .lt x y = true then x_to pc off else pc + 3) h1 rfl rfl (by show (if x_ok pc off = true then _ else none) = _; rw [if_pos h2])).trans (c_if x_cmp_lt)
theorem b_gt (h1 : t_ins m pc = some (.if_icmp .gt off)) (h2 : x_ok pc off = true) (ht : x_to pc off = t) (hn : pc + 3 = n) : XX d m pc l (.int y :: .int x :: st) A Q ↔ if y < x then XX d m t l st A Q else XX d m n l st A Q := by
  subst ht hn
  exact (c_br (pc' := if x_cmp .gt x y = true then x_to pc off else pc + 3) h1 rfl rfl (by show (if x_ok pc off = true then _ else none) = _; rw [if_pos h2])).trans (c_if x_cmp_gt)
theorem b_eq (h1 : t_ins m pc = some (.if_icmp .eq off)) (h2 : x_ok pc off = true) (ht : x_to pc off = t) (hn : pc + 3 = n) : XX d m pc l (.int y :: .int x :: st) A Q ↔ if x = y then XX d m t l st A Q else XX d m n l st A Q := by
  subst ht hn
  exact (c_br (pc' := if x_cmp .eq x y = true then x_to pc off else pc + 3) h1 rfl rfl (by show (if x_ok pc off = true then _ else none) = _; rw [if_pos h2])).trans (c_if x_cmp_eq)
theorem b_ge (h1 : t_ins m pc = some (.if_icmp .ge off)) (h2 : x_ok pc off = true) (ht : x_to pc off = t) (hn : pc + 3 = n) : XX d m pc l (.int y :: .int x :: st) A Q ↔ if x < y then XX d m n l st A Q else XX d m t l st A Q := by
  subst ht hn
  exact (c_br (pc' := if x_cmp .ge x y = true then x_to pc off else pc + 3) h1 rfl rfl (by show (if x_ok pc off = true then _ else none) = _; rw [if_pos h2])).trans (c_ifn x_cmp_ge)
theorem b_le (h1 : t_ins m pc = some (.if_icmp .le off)) (h2 : x_ok pc off = true) (ht : x_to pc off = t) (hn : pc + 3 = n) : XX d m pc l (.int y :: .int x :: st) A Q ↔ if y < x then XX d m n l st A Q else XX d m t l st A Q := by
  subst ht hn
  exact (c_br (pc' := if x_cmp .le x y = true then x_to pc off else pc + 3) h1 rfl rfl (by show (if x_ok pc off = true then _ else none) = _; rw [if_pos h2])).trans (c_ifn x_cmp_le)
theorem b_ne (h1 : t_ins m pc = some (.if_icmp .ne off)) (h2 : x_ok pc off = true) (ht : x_to pc off = t) (hn : pc + 3 = n) : XX d m pc l (.int y :: .int x :: st) A Q ↔ if x = y then XX d m n l st A Q else XX d m t l st A Q := by
  subst ht hn
  exact (c_br (pc' := if x_cmp .ne x y = true then x_to pc off else pc + 3) h1 rfl rfl (by show (if x_ok pc off = true then _ else none) = _; rw [if_pos h2])).trans (c_ifn x_cmp_ne)
theorem z_lt (h1 : t_ins m pc = some (.ifCond .lt off)) (h2 : x_ok pc off = true) (ht : x_to pc off = t) (hn : pc + 3 = n) : XX d m pc l (.int x :: st) A Q ↔ if x < w 0 then XX d m t l st A Q else XX d m n l st A Q := by
  subst ht hn
  exact (c_br (pc' := if x_cmp .lt x 0 = true then x_to pc off else pc + 3) h1 rfl rfl (by show (if x_ok pc off = true then _ else none) = _; rw [if_pos h2])).trans (c_if x_cmp_lt)
theorem z_gt (h1 : t_ins m pc = some (.ifCond .gt off)) (h2 : x_ok pc off = true) (ht : x_to pc off = t) (hn : pc + 3 = n) : XX d m pc l (.int x :: st) A Q ↔ if w 0 < x then XX d m t l st A Q else XX d m n l st A Q := by
  subst ht hn
  exact (c_br (pc' := if x_cmp .gt x 0 = true then x_to pc off else pc + 3) h1 rfl rfl (by show (if x_ok pc off = true then _ else none) = _; rw [if_pos h2])).trans (c_if x_cmp_gt)
theorem z_eq (h1 : t_ins m pc = some (.ifCond .eq off)) (h2 : x_ok pc off = true) (ht : x_to pc off = t) (hn : pc + 3 = n) : XX d m pc l (.int x :: st) A Q ↔ if x = w 0 then XX d m t l st A Q else XX d m n l st A Q := by
  subst ht hn
  exact (c_br (pc' := if x_cmp .eq x 0 = true then x_to pc off else pc + 3) h1 rfl rfl (by show (if x_ok pc off = true then _ else none) = _; rw [if_pos h2])).trans (c_if x_cmp_eq)
theorem z_ge (h1 : t_ins m pc = some (.ifCond .ge off)) (h2 : x_ok pc off = true) (ht : x_to pc off = t) (hn : pc + 3 = n) : XX d m pc l (.int x :: st) A Q ↔ if x < w 0 then XX d m n l st A Q else XX d m t l st A Q := by
  subst ht hn
  exact (c_br (pc' := if x_cmp .ge x 0 = true then x_to pc off else pc + 3) h1 rfl rfl (by show (if x_ok pc off = true then _ else none) = _; rw [if_pos h2])).trans (c_ifn x_cmp_ge)
theorem z_le (h1 : t_ins m pc = some (.ifCond .le off)) (h2 : x_ok pc off = true) (ht : x_to pc off = t) (hn : pc + 3 = n) : XX d m pc l (.int x :: st) A Q ↔ if w 0 < x then XX d m n l st A Q else XX d m t l st A Q := by
  subst ht hn
  exact (c_br (pc' := if x_cmp .le x 0 = true then x_to pc off else pc + 3) h1 rfl rfl (by show (if x_ok pc off = true then _ else none) = _; rw [if_pos h2])).trans (c_ifn x_cmp_le)
theorem z_ne (h1 : t_ins m pc = some (.ifCond .ne off)) (h2 : x_ok pc off = true) (ht : x_to pc off = t) (hn : pc + 3 = n) : XX d m pc l (.int x :: st) A Q ↔ if x = w 0 then XX d m n l st A Q else XX d m t l st A Q := by
  subst ht hn
  exact (c_br (pc' := if x_cmp .ne x 0 = true then x_to pc off else pc + 3) h1 rfl rfl (by show (if x_ok pc off = true then _ else none) = _; rw [if_pos h2])).trans (c_ifn x_cmp_ne)
theorem c_go (h1 : t_ins m pc = some (.goto off)) (h2 : x_ok pc off = true) (ht : x_to pc off = t) : XX d m pc l st A Q ↔ XX d m t l st A Q := by
  subst ht
  exact c_br h1 rfl rfl (by show (if x_ok pc off = true then _ else none) = _; rw [if_pos h2])
theorem b_null {o : Option Nat} (h1 : t_ins m pc = some (.ifnull off)) (h2 : x_ok pc off = true) (ht : x_to pc off = t) (hn : pc + 3 = n) : XX d m pc l (va_rf o :: st) A Q ↔ if o = none then XX d m t l st A Q else XX d m n l st A Q := by
  subst ht hn
  cases o with
  | none => rw [if_pos rfl]; exact c_br h1 rfl rfl (by show (if x_ok pc off = true then _ else none) = _; rw [if_pos h2])
  | some a => rw [if_neg (by simp)]; exact c_br h1 rfl rfl rfl
theorem b_nonnull {o : Option Nat} (h1 : t_ins m pc = some (.ifnonnull off)) (h2 : x_ok pc off = true) (ht : x_to pc off = t) (hn : pc + 3 = n) : XX d m pc l (va_rf o :: st) A Q ↔ if o = none then XX d m n l st A Q else XX d m t l st A Q := by
  subst ht hn
  cases o with
  | some a => rw [if_neg (by simp)]; exact c_br h1 rfl rfl (by show (if x_ok pc off = true then _ else none) = _; rw [if_pos h2])
  | none => rw [if_pos rfl]; exact c_br h1 rfl rfl rfl
end
theorem c_tab {x : Int32} {dflt lo hi : Int} {offs : Array Int} {ts : List Nat} {df : Nat} (h1 : t_ins m pc = some (.tableswitch dflt lo hi offs)) (h2 : offs.toList.map (fun o => (x_ok pc o, x_to pc o)) = ts.map (fun t => (true, t))) (h3 : x_ok pc dflt = true) (h4 : x_to pc dflt = df) (h5 : hi = lo + ts.length - 1) : XX d m pc l (.int x :: st) A Q ↔ XX d m (swT ts df lo x.toInt) l st A Q := by
  have hl : offs.toList.length = ts.length := by
    have := congrArg List.length h2
    simpa using this
  by_cases hx : x.toInt < lo ∨ lo + ts.length ≤ x.toInt
  · have e : swT ts df lo x.toInt = df := if_pos hx
    rw [e]
    refine c_br h1 rfl rfl ?_
    show (match x_tab pc dflt lo hi offs x.toInt with | some off => if x_ok pc off = true then some (x_to pc off, st) else none | none => none) = _
    unfold x_tab
    rw [if_pos (by omega)]
    dsimp only
    rw [if_pos h3, h4]
  · have e : swT ts df lo x.toInt = ts.getD (x.toInt - lo).toNat df := if_neg hx
    rw [e]
    have hk : (x.toInt - lo).toNat < ts.length := by omega
    have hk2 : (x.toInt - lo).toNat < offs.toList.length := by rw [hl]; exact hk
    have := congrArg (fun L => L[(x.toInt - lo).toNat]?) h2
    rw [List.getElem?_map, List.getElem?_map, List.getElem?_eq_getElem hk, List.getElem?_eq_getElem hk2] at this
    simp only [Option.map_some, Option.some.injEq, Prod.mk.injEq] at this
    refine c_br h1 rfl rfl ?_
    show (match x_tab pc dflt lo hi offs x.toInt with | some off => if x_ok pc off = true then some (x_to pc off, st) else none | none => none) = _
    unfold x_tab
    rw [if_neg (by omega), ← Array.getElem?_toList, List.getElem?_eq_getElem hk2]
    dsimp only
    rw [if_pos this.1, this.2, List.getD_eq_getElem?_getD, List.getElem?_eq_getElem hk]
    rfl
theorem look_to {pc : Nat} {dflt z : Int} {df : Nat} (h3 : x_ok pc dflt = true) (h4 : x_to pc dflt = df) : ∀ (ps : List (Int × Int)) (ts : List (Int × Nat)), ps.map (fun e => (e.1, x_ok pc e.2, x_to pc e.2)) = ts.map (fun e => (e.1, true, e.2)) → x_ok pc (Op.lookupswitch.offset ps dflt z) = true ∧ x_to pc (Op.lookupswitch.offset ps dflt z) = swL ts df z
  | [], [], _ => ⟨h3, h4⟩
  | [], _ :: _, h => by cases h
  | _ :: _, [], h => by cases h
  | (a, o) :: ps, (b, t) :: ts, h => by
    simp only [List.map_cons, List.cons.injEq, Prod.mk.injEq] at h
    obtain ⟨⟨rfl, h5, h6⟩, h7⟩ := h
    rw [Op.lookupswitch.offset_cons]
    unfold swL
    by_cases hz : z = a
    · rw [if_pos (by first | exact hz | exact hz.symm), if_pos hz]; exact ⟨h5, h6⟩
    · rw [if_neg (by first | exact hz | exact fun e => hz e.symm), if_neg hz]; exact look_to h3 h4 ps ts h7
theorem c_look {x : Int32} {dflt : Int} {ps : Array (Int × Int)} {ts : List (Int × Nat)} {df : Nat} (h1 : t_ins m pc = some (.lookupswitch dflt ps)) (h2 : ps.toList.map (fun e => (e.1, x_ok pc e.2, x_to pc e.2)) = ts.map (fun e => (e.1, true, e.2))) (h3 : x_ok pc dflt = true) (h4 : x_to pc dflt = df) (h5 : (ps.toList.zip (ps.toList.drop 1)).all (fun (a, next) => a.1 < next.1) = true) : XX d m pc l (.int x :: st) A Q ↔ XX d m (swL ts df x.toInt) l st A Q := by
  obtain ⟨g1, g2⟩ := look_to (z := x.toInt) h3 h4 ps.toList ts h2
  refine c_br h1 rfl rfl ?_
  show (if (ps.toList.zip (ps.toList.drop 1)).all (fun (a, next) => a.1 < next.1) then (if x_ok pc (Op.lookupswitch.offset ps.toList dflt x.toInt) then some (x_to pc (Op.lookupswitch.offset ps.toList dflt x.toInt), st) else none) else none) = _
  rw [if_pos h5, if_pos g1, g2]
theorem XX_ite {P : Prop} [Decidable P] {t n : Nat} : XX d m (if P then t else n) l st A Q ↔ if P then XX d m t l st A Q else XX d m n l st A Q := by
  by_cases hp : P
  · rw [if_pos hp, if_pos hp]
  · rw [if_neg hp, if_neg hp]
theorem c_div {x y : Int32} (h1 : t_ins m pc = some .idiv) : XX d m pc l (.int y :: .int x :: st) A Q ↔ ¬ y = w 0 ∧ XX d m (pc + 1) l (.int (x / y) :: st) A Q := by
  by_cases hy : y = w 0
  · have e : x_stk .idiv (.int y :: .int x :: st) = none := by
      show (if y = w 0 then none else some _) = none
      rw [if_pos hy]
    exact ⟨fun h => absurd h (XX_not h1 (by unfold x_loc; rw [e]; rfl) rfl rfl rfl), fun h => absurd hy h.1⟩
  · have e : x_stk .idiv (.int y :: .int x :: st) = some (.int (x / y) :: st) := by
      show (if y = w 0 then none else some _) = _
      rw [if_neg hy]
    rw [c_stk h1 e]
    exact ⟨fun h => ⟨hy, h⟩, fun h => h.2⟩
theorem c_rem {x y : Int32} (h1 : t_ins m pc = some .irem) : XX d m pc l (.int y :: .int x :: st) A Q ↔ ¬ y = w 0 ∧ XX d m (pc + 1) l (.int (x - x / y * y) :: st) A Q := by
  by_cases hy : y = w 0
  · have e : x_stk .irem (.int y :: .int x :: st) = none := by
      show (if y = w 0 then none else some _) = none
      rw [if_pos hy]
    exact ⟨fun h => absurd h (XX_not h1 (by unfold x_loc; rw [e]; rfl) rfl rfl rfl), fun h => absurd hy h.1⟩
  · have e : x_stk .irem (.int y :: .int x :: st) = some (.int (x - x / y * y) :: st) := by
      show (if y = w 0 then none else some _) = _
      rw [if_neg hy]
    rw [c_stk h1 e]
    exact ⟨fun h => ⟨hy, h⟩, fun h => h.2⟩
theorem c_callS {k kd m' n : Nat} {as r : List Value} (h1 : t_ins m pc = some (.invokestatic k)) (hc : t_cal (t_own m) k = some (kd, m', n)) (hj : t_jdk (t_own m) k = none) (hk : (kd == 0 || kd == 5) = true) (hp : x_pop n st = some (as, r)) (hw : x_words r ≤ 8) (hl : (x_arg as).length ≤ t_maxl m') :
    XX (d + 1) m pc l st A Q ↔ XC d m' as A (XK (d + 1) m pc l r Q) := by
  refine XX_cal h1 ?_ rfl rfl ?_
  · unfold x_loc
    show (match x_mem m (.invokestatic k) st A with | some (st', A') => some (pc + 3, l, st', A') | none => none) = none
    have : x_mem m (.invokestatic k) st A = none := by
      show (if x_words st ≤ 100 ∧ x_jS (t_jdk (t_own m) k) = true then x_jdk (t_own m) k st A else none) = none
      rw [hj, if_neg (fun h => by cases h.2)]
    rw [this]
  · show (match t_cal (t_own m) k with | some (kd, m', n) => (match x_pop n st with | some (as, r) => if (kd == 0 || kd == 5) && decide (x_words r ≤ 8) && decide ((x_arg as).length ≤ t_maxl m') then some (m', as, r) else none | none => none) | none => none) = _
    rw [hc]
    dsimp only
    rw [hp]
    dsimp only
    rw [if_pos (by rw [hk, decide_eq_true hw, decide_eq_true hl]; rfl)]
theorem c_callV {S : SH} {I : MI} {L : ML} {R : MR} {G : MG} {k kd m' n a c : Nat} {as r : List Value} (h1 : t_ins m pc = some (.invokevirtual k)) (hc : t_cal (t_own m) k = some (kd, m', n)) (hj : t_jdk (t_own m) k = none) (hk : (kd == 1 || kd == 4) = true) (hp : x_pop (n + 1) st = some (.ref a :: as, r)) (hw : x_words r ≤ 8) (hl : (x_arg (.ref a :: as)).length ≤ t_maxl m') (ho : t_own m' = c) :
    XX (d + 1) m pc l st (mk S I L R G) Q ↔ S a = some (.inr c) ∧ XC d m' (.ref a :: as) (mk S I L R G) (XK (d + 1) m pc l r Q) := by
  subst ho
  have hm : x_mem m (.invokevirtual k) st (mk S I L R G) = none := by
    show (if x_words st ≤ 100 ∧ x_jV (t_jdk (t_own m) k) = true then x_jdk (t_own m) k st (mk S I L R G) else none) = none
    rw [hj, if_neg (fun h => by cases h.2)]
  have hloc : x_loc m (.invokevirtual k) pc l st (mk S I L R G) = none := by
    unfold x_loc
    show (match x_mem m (.invokevirtual k) st (mk S I L R G) with | some (st', A') => some (pc + 3, l, st', A') | none => none) = none
    rw [hm]
  have hcal : x_cal (t_own m) (.invokevirtual k) st (mk S I L R G) = if x_recv (mk S I L R G) m' (.ref a :: as) = true then some (m', .ref a :: as, r) else none := by
    show (match t_cal (t_own m) k with | some (kd, m', n) => (match x_pop (n + 1) st with | some (as, r) => if (kd == 1 || kd == 4) && decide (x_words r ≤ 8) && decide ((x_arg as).length ≤ t_maxl m') && x_recv (mk S I L R G) m' as then some (m', as, r) else none | none => none) | none => none) = _
    rw [hc]
    dsimp only
    rw [hp]
    dsimp only
    rw [hk, decide_eq_true hw, decide_eq_true hl]
    rfl
  by_cases hs : S a = some (.inr (t_own m'))
  · have hr : x_recv (mk S I L R G) m' (.ref a :: as) = true := by
      show (x_cls (mk S I L R G) a == some (t_own m')) = true
      rw [x_cls_mk.mpr hs, beq_self_eq_true]
    rw [if_pos hr] at hcal
    rw [XX_cal h1 hloc rfl rfl hcal]
    exact ⟨fun h => ⟨hs, h⟩, fun h => h.2⟩
  · have hr : ¬ x_recv (mk S I L R G) m' (.ref a :: as) = true := by
      intro h
      exact hs (x_cls_mk.mp (beq_iff_eq.mp h))
    rw [if_neg hr] at hcal
    exact ⟨fun h => absurd h (XX_not h1 hloc rfl rfl hcal), fun h => absurd h.1 hs⟩
theorem e_retN (h1 : t_ins m pc = some .return_) (h2 : t_ret m = 0) : XX d m pc l [] A Q ↔ Q (.inl none) A :=
  XX_fin h1 rfl (by show (if t_ret m = 0 then some none else none) = _; rw [if_pos h2])
theorem e_retI {v : Int32} (h1 : t_ins m pc = some .ireturn) (h2 : t_ret m = 1) : XX d m pc l [.int v] A Q ↔ Q (.inl (some (.int v))) A :=
  XX_fin h1 rfl (by show (if t_ret m = 1 then some (some (Value.int v)) else _) = _; rw [if_pos h2])
theorem e_retZ {v : Int32} (h1 : t_ins m pc = some .ireturn) (h2 : t_ret m = 2) : XX d m pc l [.int v] A Q ↔ (v = 0 ∨ v = 1) ∧ Q (.inl (some (.int v))) A := by
  by_cases hv : v = 0 ∨ v = 1
  · rw [XX_fin (v := some (.int v)) h1 rfl (by show (if t_ret m = 1 then some (some (Value.int v)) else if t_ret m = 2 ∧ (v = 0 ∨ v = 1) then some (some (.int v)) else none) = _; rw [if_neg (by omega), if_pos ⟨h2, hv⟩])]
    exact ⟨fun h => ⟨hv, h⟩, fun h => h.2⟩
  · exact ⟨fun h => absurd h (XX_not h1 rfl (by show (if t_ret m = 1 then some (some (Value.int v)) else if t_ret m = 2 ∧ (v = 0 ∨ v = 1) then some (some (.int v)) else none) = _; rw [if_neg (by omega), if_neg (fun e => hv e.2)]) rfl rfl), fun h => absurd h.1 hv⟩
theorem e_retL {v : Int64} (h1 : t_ins m pc = some .lreturn) (h2 : t_ret m = 3) : XX d m pc l [.long v] A Q ↔ Q (.inl (some (.long v))) A :=
  XX_fin h1 rfl (by show (if t_ret m = 3 then some (some (Value.long v)) else none) = _; rw [if_pos h2])
theorem e_retA {a : Nat} (h1 : t_ins m pc = some .areturn) (h2 : t_ret m = 4) : XX d m pc l [.ref a] A Q ↔ Q (.inl (some (.ref a))) A :=
  XX_fin h1 rfl (by show (if t_ret m = 4 then some (some (Value.ref a)) else none) = _; rw [if_pos h2])
theorem e_retU (h1 : t_ins m pc = some .areturn) (h2 : t_ret m = 4) : XX d m pc l [.null] A Q ↔ Q (.inl (some .null)) A :=
  XX_fin h1 rfl (by show (if t_ret m = 4 then some (some Value.null) else none) = _; rw [if_pos h2])
theorem e_retO {o : Option Nat} (h1 : t_ins m pc = some .areturn) (h2 : t_ret m = 4) : XX d m pc l [va_rf o] A Q ↔ Q (.inl (some (va_rf o))) A := by
  cases o with
  | none => exact e_retU h1 h2
  | some a => exact e_retA h1 h2
theorem mk_lost {S : SH} {I : MI} {L : ML} {R : MR} {g1 g2 : Nat} {g3 : Nat → Nat} {n : Nat} : h_lost (mk S I L R (g1, g2, g3)) n = mk S I L R (g1 + 1, g2 + n, g3) := rfl
theorem e_thr {S : SH} {I : MI} {L : ML} {R : MR} {G : MG} {k E : Nat} (h1 : t_ins m pc = some (.new k)) (hl : l.length = t_maxl m) (hw : x_words st ≤ 8) (hn : t_new (t_own m) k = none) (he : t_exc (t_own m) k = some E) : XX d m pc l st (mk S I L R G) Q ↔ Q (.inr E) (mk S I L R (G.1 + 1, G.2.1 + 6, G.2.2)) := by
  refine XX_thr h1 ?_ rfl ?_
  · unfold x_loc
    show (match x_mem m (.new k) st (mk S I L R G) with | some (st', A') => some (pc + 3, l, st', A') | none => none) = none
    have : x_mem m (.new k) st (mk S I L R G) = none := by
      show (match t_new (t_own m) k with | some c => some (Value.ref (mk S I L R G).2.1 :: st, h_push (mk S I L R G) (.inr (c, t_df.getD c [])) (t_nf.getD c 0)) | none => none) = none
      rw [hn]
    rw [this]
  · show (if l.length = t_maxl m ∧ x_words st ≤ 8 then (t_exc (t_own m) k).map (fun E => (E, h_lost (mk S I L R G) 6)) else none) = _
    rw [if_pos ⟨hl, hw⟩, he]
    rfl
theorem kx_v {r : List Value} {v : Value} : XK d m pc l r Q (.inl (some v)) A ↔ XX d m (pc + 3) l (v :: r) A Q := Iff.rfl
theorem kx_n {r : List Value} : XK d m pc l r Q (.inl none) A ↔ XX d m (pc + 3) l r A Q := Iff.rfl
theorem kx_t {r : List Value} {q : Nat} (h : t_han m = []) : XK d m pc l r Q (.inr q) A ↔ Q (.inr q) A := by
  have h1 : x_hnd m pc q = none := by unfold x_hnd; rw [h]; rfl
  show (match x_hnd m pc q with | some h => (match x_hst m h with | some (h', k) => if k < l.length then XX d m h' (x_putN l k) [] A Q else False | none => False) | none => if (t_han m).isEmpty then Q (.inr q) A else False) ↔ _
  rw [h1, h]
  exact Iff.rfl
theorem kx_h {r : List Value} {q h h' k : Nat} (h1 : x_hnd m pc q = some h) (h2 : x_hst m h = some (h', k)) (h3 : k < l.length) : XK d m pc l r Q (.inr q) A ↔ XX d m h' (x_putN l k) [] A Q := by
  show (match x_hnd m pc q with | some h => (match x_hst m h with | some (h', k) => if k < l.length then XX d m h' (x_putN l k) [] A Q else False | none => False) | none => if (t_han m).isEmpty then Q (.inr q) A else False) ↔ _
  rw [h1]
  dsimp only
  rw [h2]
  dsimp only
  rw [if_pos h3]
end

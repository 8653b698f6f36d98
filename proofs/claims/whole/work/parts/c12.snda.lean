/-! what the plain machine does, the machine does: stack, locals, branches -/
theorem x_b2_i {f : Int32 → Int32 → Int32} {st st' : List Value} (h : x_b2 f st = some st') : ∃ x y r, st = .int y :: .int x :: r ∧ st' = .int (f x y) :: r := by
  unfold x_b2 at h
  split at h
  · rename_i y x r; cases h; exact ⟨x, y, r, rfl, rfl⟩
  · cases h
theorem x_z2_i {f : Int32 → Int32 → Int32} {st st' : List Value} (h : x_z2 f st = some st') : ∃ x y r, st = .int y :: .int x :: r ∧ ¬ y = 0 ∧ st' = .int (f x y) :: r := by
  unfold x_z2 at h
  split at h
  · rename_i y x r
    split at h
    · cases h
    · rename_i hy
      cases h; exact ⟨x, y, r, rfl, hy, rfl⟩
  · cases h
theorem x_l2_i {f : Int64 → Int64 → Int64} {st st' : List Value} (h : x_l2 f st = some st') : ∃ x y r, st = .long y :: .long x :: r ∧ st' = .long (f x y) :: r := by
  unfold x_l2 at h
  split at h
  · rename_i y x r; cases h; exact ⟨x, y, r, rfl, rfl⟩
  · cases h
theorem x_li_i {f : Int64 → Int32 → Int64} {st st' : List Value} (h : x_li f st = some st') : ∃ x y r, st = .int y :: .long x :: r ∧ st' = .long (f x y) :: r := by
  unfold x_li at h
  split at h
  · rename_i y x r; cases h; exact ⟨x, y, r, rfl, rfl⟩
  · cases h
theorem x_u1_i {f : Int32 → Value} {st st' : List Value} (h : x_u1 f st = some st') : ∃ x r, st = .int x :: r ∧ st' = f x :: r := by
  unfold x_u1 at h
  split at h
  · rename_i x r; cases h; exact ⟨x, r, rfl, rfl⟩
  · cases h
theorem x_cat_i {v : Value} (h : x_cat v = true) : v.category = 1 := by simpa [x_cat] using h
section YS
variable {p : Program} {l : Launch} {e : Env} {R : Room} {s : State} {m : MethodId} {args : Array Value} {below : List Frame} {meth : Method} {c : Code} {H : Heap} {locs : List Loc} {cells slots : Nat} {Q : State → Prop}
variable {cc : ByteArray} {pc : Nat} {ls : Array Slot}
theorem y_stk {i : Instr} {st st' : List Value} (hx : p.tables.exec = Jvm.exec) (hb : c.code = cc) (hd : decode cc pc = .ok (i, x_len i)) (h : x_stk i st = some st')
    (k : W p l e R s m args below meth c H locs cells slots Q (F0 m (pc + x_len i) ls st')) : W p l e R s m args below meth c H locs cells slots Q (F0 m pc ls st) := by
  unfold x_stk at h
  split at h
  · cases h; exact lv_iconst hx hb hd rfl k
  · cases h; exact lv_bipush hx hb hd rfl k
  · cases h; exact lv_sipush hx hb hd rfl k
  · cases h; exact lv_lconst hx hb hd rfl k
  · cases h; exact lv_null hx hb hd k
  · obtain ⟨x, y, r, rfl, rfl⟩ := x_b2_i h; exact lv_iadd hx hb hd k
  · obtain ⟨x, y, r, rfl, rfl⟩ := x_b2_i h; exact lv_isub hx hb hd k
  · obtain ⟨x, y, r, rfl, rfl⟩ := x_b2_i h; exact lv_imul hx hb hd k
  · obtain ⟨x, y, r, rfl, rfl⟩ := x_b2_i h; exact lv_iand hx hb hd k
  · obtain ⟨x, y, r, rfl, rfl⟩ := x_b2_i h; exact lv_ior hx hb hd k
  · obtain ⟨x, y, r, rfl, rfl⟩ := x_b2_i h; exact lv_ixor hx hb hd k
  · obtain ⟨x, y, r, rfl, rfl⟩ := x_b2_i h; exact lv_ishl hx hb hd k
  · obtain ⟨x, y, r, rfl, rfl⟩ := x_b2_i h; exact lv_ishr hx hb hd k
  · obtain ⟨x, y, r, rfl, rfl⟩ := x_b2_i h; exact lv_iushr hx hb hd rfl k
  · obtain ⟨x, y, r, rfl, hy, rfl⟩ := x_z2_i h; exact lv_idiv hx hb hd hy k
  · obtain ⟨x, y, r, rfl, hy, rfl⟩ := x_z2_i h; exact lv_irem hx hb hd hy k
  · obtain ⟨x, y, r, rfl, rfl⟩ := x_l2_i h; exact lv_ladd hx hb hd k
  · obtain ⟨x, y, r, rfl, rfl⟩ := x_l2_i h; exact lv_lsub hx hb hd k
  · obtain ⟨x, y, r, rfl, rfl⟩ := x_l2_i h; exact lv_lmul hx hb hd k
  · obtain ⟨x, y, r, rfl, rfl⟩ := x_l2_i h; exact lv_lor hx hb hd k
  · obtain ⟨x, y, r, rfl, rfl⟩ := x_li_i h; exact lv_lshl hx hb hd rfl k
  · obtain ⟨x, y, r, rfl, rfl⟩ := x_li_i h; exact lv_lushr hx hb hd rfl k
  · obtain ⟨x, r, rfl, rfl⟩ := x_u1_i h; exact lv_i2l hx hb hd rfl k
  · obtain ⟨x, r, rfl, rfl⟩ := x_u1_i h; exact lv_i2b hx hb hd rfl k
  · split at h
    · cases h; exact lv_l2i hx hb hd rfl k
    · cases h
  · split at h
    · cases h; exact W.lcmp hx hb hd k
    · cases h
  · split at h
    · split at h
      · rename_i hc; cases h; exact lv_dup hx hb hd (x_cat_i hc) k
      · cases h
    · cases h
  · split at h
    · split at h
      · rename_i hc; cases h; exact lv_pop hx hb hd (x_cat_i hc) k
      · cases h
    · cases h
  · split at h
    · split at h
      · rename_i hc
        cases h
        rw [Bool.and_eq_true] at hc
        exact lv_dup2_11 hx hb hd (x_cat_i hc.1) (x_cat_i hc.2) k
      · cases h
    · cases h
  · cases h
/-- the locals of the plain machine in the machine's -/
def y_as : Nat → Lc → List (Nat × Value)
  | _, [] => []
  | k, none :: r => y_as (k + 1) r
  | k, some v :: r => (k, v) :: y_as (k + 1) r
def y_L (l : Lc) (ls : Array Slot) : Prop := lv_has ls l.length (y_as 0 l)
theorem y_as_mem : ∀ (l : Lc) (k j : Nat) (v : Value), (j, v) ∈ y_as k l ↔ k ≤ j ∧ l[j - k]? = some (some v)
  | [], k, j, v => by simp [y_as]
  | none :: r, k, j, v => by
    rw [y_as, y_as_mem r (k + 1) j v]
    constructor
    · rintro ⟨h1, h2⟩
      refine ⟨by omega, ?_⟩
      rw [show j - k = (j - (k + 1)) + 1 by omega, List.getElem?_cons_succ]
      exact h2
    · rintro ⟨h1, h2⟩
      rcases Nat.eq_or_lt_of_le h1 with e | e
      · subst e; simp at h2
      · refine ⟨e, ?_⟩
        rw [show j - k = (j - (k + 1)) + 1 by omega, List.getElem?_cons_succ] at h2
        exact h2
  | some w :: r, k, j, v => by
    rw [y_as, List.mem_cons, y_as_mem r (k + 1) j v]
    constructor
    · rintro (h | ⟨h1, h2⟩)
      · cases h; simp
      · refine ⟨by omega, ?_⟩
        rw [show j - k = (j - (k + 1)) + 1 by omega, List.getElem?_cons_succ]
        exact h2
    · rintro ⟨h1, h2⟩
      rcases Nat.eq_or_lt_of_le h1 with e | e
      · subst e
        simp at h2
        exact Or.inl (by rw [h2])
      · refine Or.inr ⟨e, ?_⟩
        rw [show j - k = (j - (k + 1)) + 1 by omega, List.getElem?_cons_succ] at h2
        exact h2
theorem x_get_i {l : Lc} {k : Nat} {v : Value} (hv : x_get l k = some v) : l[k]? = some (some v) := by
  unfold x_get at hv
  rw [List.getD_eq_getElem?_getD] at hv
  cases hl : l[k]? with
  | none => rw [hl] at hv; cases hv
  | some o => rw [hl] at hv; exact congrArg some hv
theorem y_L_get {l : Lc} {k : Nat} {v : Value} (h : y_L l ls) (hv : x_get l k = some v) : ls[k]? = some (.val v) := by
  refine h.2.2 (k, v) ((y_as_mem l 0 k v).mpr ⟨Nat.zero_le _, ?_⟩)
  unfold x_get at hv
  rw [List.getD_eq_getElem?_getD] at hv
  rw [Nat.sub_zero]
  cases hl : l[k]? with
  | none => rw [hl] at hv; cases hv
  | some o => rw [hl] at hv; exact congrArg some hv
theorem x_two_i {l : Lc} {j : Nat} {v : Value} (h : l[j]? = some (some v)) (hc : (v.category == 2) = true) : x_two (x_get l j) = true := by
  unfold x_get
  rw [List.getD_eq_getElem?_getD, h]
  cases v <;> simp_all [x_two, Value.category]
theorem x_kill_len (l : Lc) (k : Nat) : (x_kill l k).length = l.length := by
  unfold x_kill
  split
  · rfl
  · split
    · exact List.length_set
    · rfl
/-- what is left after a store at k -/
theorem x_kill_at {l : Lc} {k j : Nat} {v : Value} (h : (x_kill l k)[j]? = some (some v)) (hne : j ≠ k) : l[j]? = some (some v) ∧ ¬ (j + 1 = k ∧ v.category = 2) := by
  unfold x_kill at h
  split at h
  · exact ⟨h, by omega⟩
  · rename_i i
    split at h
    · rename_i ht
      by_cases e : j = i
      · subst e
        rw [List.getElem?_set] at h
        split at h
        · split at h <;> cases h
        · exact absurd rfl ‹_›
      · rw [List.getElem?_set_ne (Ne.symm e)] at h
        exact ⟨h, by omega⟩
    · rename_i ht
      refine ⟨h, fun q => ht ?_⟩
      have : j = i := by omega
      subst this
      exact x_two_i h (by simp [q.2])
theorem y_L_put {l : Lc} {k : Nat} {v : Value} {ls' : Array Slot} (hk : k < l.length) (h' : lv_has ls' l.length ((k, v) :: (y_as 0 l).filter (fun q => !(q.1 == k) && !(q.1 + 1 == k && q.2.category == 2)))) : y_L (x_put l k v) ls' := by
  unfold y_L x_put
  rw [List.length_set, x_kill_len]
  refine ⟨h'.1, h'.2.1, fun q hq => ?_⟩
  obtain ⟨j, w⟩ := q
  have hm := ((y_as_mem _ 0 j w).mp hq).2
  rw [Nat.sub_zero] at hm
  apply h'.2.2
  by_cases e : j = k
  · subst e
    rw [List.getElem?_set_self (by rw [x_kill_len]; exact hk)] at hm
    cases hm
    exact List.mem_cons_self
  · rw [List.getElem?_set_ne (Ne.symm e)] at hm
    obtain ⟨h1, h2⟩ := x_kill_at hm e
    refine List.mem_cons_of_mem _ (List.mem_filter.mpr ⟨(y_as_mem l 0 j w).mpr ⟨Nat.zero_le _, h1⟩, ?_⟩)
    simp only [Bool.and_eq_true, Bool.not_eq_true', beq_eq_false_iff_ne, Bool.and_eq_false_iff]
    refine ⟨e, ?_⟩
    by_cases e2 : j + 1 = k
    · exact Or.inr fun q => h2 ⟨e2, q⟩
    · exact Or.inl e2
theorem y_L_putN {l : Lc} {k : Nat} {v : Value} {ls' : Array Slot} (h' : lv_has ls' l.length ((k, v) :: (y_as 0 l).filter (fun q => !(q.1 == k) && !(q.1 + 1 == k && q.2.category == 2)))) : y_L (x_putN l k) ls' := by
  unfold y_L x_putN
  rw [List.length_set, x_kill_len]
  refine ⟨h'.1, h'.2.1, fun q hq => ?_⟩
  obtain ⟨j, w⟩ := q
  have hm := ((y_as_mem _ 0 j w).mp hq).2
  rw [Nat.sub_zero] at hm
  apply h'.2.2
  by_cases e : j = k
  · subst e
    rw [List.getElem?_set] at hm
    split at hm
    · split at hm <;> cases hm
    · exact absurd rfl ‹_›
  · rw [List.getElem?_set_ne (Ne.symm e)] at hm
    obtain ⟨h1, h2⟩ := x_kill_at hm e
    refine List.mem_cons_of_mem _ (List.mem_filter.mpr ⟨(y_as_mem l 0 j w).mpr ⟨Nat.zero_le _, h1⟩, ?_⟩)
    simp only [Bool.and_eq_true, Bool.not_eq_true', beq_eq_false_iff_ne, Bool.and_eq_false_iff]
    refine ⟨e, ?_⟩
    by_cases e2 : j + 1 = k
    · exact Or.inr fun q => h2 ⟨e2, q⟩
    · exact Or.inl e2
theorem y_L_put2 {l : Lc} {k : Nat} {v : Value} {ls' : Array Slot} (hk : k + 1 < l.length) (h' : lv_has ls' l.length ((k, v) :: (y_as 0 l).filter (fun q => !(q.1 == k) && (!(q.1 == k + 1) && !(q.1 + 1 == k && q.2.category == 2))))) : y_L (x_put2 l k v) ls' := by
  unfold y_L x_put2
  rw [List.length_set, List.length_set, x_kill_len]
  refine ⟨h'.1, h'.2.1, fun q hq => ?_⟩
  obtain ⟨j, w⟩ := q
  have hm := ((y_as_mem _ 0 j w).mp hq).2
  rw [Nat.sub_zero] at hm
  apply h'.2.2
  by_cases e0 : j = k + 1
  · subst e0
    rw [List.getElem?_set] at hm
    split at hm
    · split at hm <;> cases hm
    · exact absurd rfl ‹_›
  rw [List.getElem?_set_ne (Ne.symm e0)] at hm
  by_cases e : j = k
  · subst e
    rw [List.getElem?_set_self (by rw [x_kill_len]; omega)] at hm
    cases hm
    exact List.mem_cons_self
  · rw [List.getElem?_set_ne (Ne.symm e)] at hm
    obtain ⟨h1, h2⟩ := x_kill_at hm e
    refine List.mem_cons_of_mem _ (List.mem_filter.mpr ⟨(y_as_mem l 0 j w).mpr ⟨Nat.zero_le _, h1⟩, ?_⟩)
    simp only [Bool.and_eq_true, Bool.not_eq_true', beq_eq_false_iff_ne, Bool.and_eq_false_iff]
    refine ⟨e, e0, ?_⟩
    by_cases e2 : j + 1 = k
    · exact Or.inr fun q => h2 ⟨e2, q⟩
    · exact Or.inl e2
theorem x_ldI_i {l : Lc} {k : Nat} {st st' : List Value} (h : x_ldI l k st = some st') : ∃ x, x_get l k = some (.int x) ∧ st' = .int x :: st := by
  unfold x_ldI at h
  split at h
  · rename_i x hx; cases h; exact ⟨x, hx, rfl⟩
  · cases h
theorem x_ldL_i {l : Lc} {k : Nat} {st st' : List Value} (h : x_ldL l k st = some st') : ∃ x, x_get l k = some (.long x) ∧ st' = .long x :: st := by
  unfold x_ldL at h
  split at h
  · rename_i x hx; cases h; exact ⟨x, hx, rfl⟩
  · cases h
theorem y_lcl {i : Instr} {st st' : List Value} {L L' : Lc} (hx : p.tables.exec = Jvm.exec) (hb : c.code = cc) (hd : decode cc pc = .ok (i, x_len i)) (hl : y_L L ls) (h : x_lcl i L st = some (L', st'))
    (k : ∀ ls' : Array Slot, y_L L' ls' → L'.length = L.length → W p l e R s m args below meth c H locs cells slots Q (F0 m (pc + x_len i) ls' st')) : W p l e R s m args below meth c H locs cells slots Q (F0 m pc ls st) := by
  have pl : ∀ (j : Nat) (v : Value), (x_put L j v).length = L.length := fun j v => by unfold x_put; rw [List.length_set, x_kill_len]
  have pl2 : ∀ (j : Nat) (v : Value), (x_put2 L j v).length = L.length := fun j v => by unfold x_put2; rw [List.length_set, List.length_set, x_kill_len]
  unfold x_lcl at h
  split at h
  · cases h1 : x_ldI L _ st with
    | none => rw [h1] at h; cases h
    | some z => rw [h1] at h; cases h; obtain ⟨x, hg, rfl⟩ := x_ldI_i h1; exact lv_iload hx hb hd (y_L_get hl hg) (k ls hl rfl)
  · cases h1 : x_ldI L _ st with
    | none => rw [h1] at h; cases h
    | some z => rw [h1] at h; cases h; obtain ⟨x, hg, rfl⟩ := x_ldI_i h1; exact lv_iload_n hx hb hd rfl (y_L_get hl hg) (k ls hl rfl)
  · cases h1 : x_ldL L _ st with
    | none => rw [h1] at h; cases h
    | some z => rw [h1] at h; cases h; obtain ⟨x, hg, rfl⟩ := x_ldL_i h1; exact lv_lload hx hb hd (y_L_get hl hg) (k ls hl rfl)
  · cases h1 : x_ldL L _ st with
    | none => rw [h1] at h; cases h
    | some z => rw [h1] at h; cases h; obtain ⟨x, hg, rfl⟩ := x_ldL_i h1; exact lv_lload_n hx hb hd rfl (y_L_get hl hg) (k ls hl rfl)
  · cases h1 : x_ldA L _ st with
    | none => rw [h1] at h; cases h
    | some z =>
      rw [h1] at h; cases h
      unfold x_ldA at h1
      split at h1
      · rename_i x hg; cases h1; exact lv_aload hx hb hd (y_L_get hl hg) (k ls hl rfl)
      · rename_i hg; cases h1; exact lv_aloadN hx hb hd (y_L_get hl hg) (k ls hl rfl)
      · cases h1
  · cases h1 : x_ldA L _ st with
    | none => rw [h1] at h; cases h
    | some z =>
      rw [h1] at h; cases h
      unfold x_ldA at h1
      split at h1
      · rename_i x hg; cases h1; exact lv_aload_n hx hb hd rfl (y_L_get hl hg) (k ls hl rfl)
      · rename_i hg; cases h1; exact lv_aload_nN hx hb hd rfl (y_L_get hl hg) (k ls hl rfl)
      · cases h1
  · unfold x_stI at h
    split at h
    · split at h
      · rename_i hk; cases h; exact lv_istore hx hb hd hl hk rfl (fun ls' h' => k ls' (y_L_put hk h') (pl _ _))
      · cases h
    · cases h
  · unfold x_stI at h
    split at h
    · split at h
      · rename_i hk; cases h; exact lv_istore_n hx hb hd rfl hl hk rfl (fun ls' h' => k ls' (y_L_put hk h') (pl _ _))
      · cases h
    · cases h
  · unfold x_stL at h
    split at h
    · split at h
      · rename_i hk; cases h; exact lv_lstore hx hb hd hl hk rfl (fun ls' h' => k ls' (y_L_put2 hk h') (pl2 _ _))
      · cases h
    · cases h
  · unfold x_stL at h
    split at h
    · split at h
      · rename_i hk; cases h; exact lv_lstore_n hx hb hd rfl hl hk rfl (fun ls' h' => k ls' (y_L_put2 hk h') (pl2 _ _))
      · cases h
    · cases h
  · unfold x_stA at h
    split at h
    · split at h
      · rename_i hk; cases h; exact lv_astore hx hb hd hl hk rfl (fun ls' h' => k ls' (y_L_put hk h') (pl _ _))
      · cases h
    · split at h
      · rename_i hk; cases h; exact lv_astoreN hx hb hd hl hk rfl (fun ls' h' => k ls' (y_L_put hk h') (pl _ _))
      · cases h
    · cases h
  · unfold x_stA at h
    split at h
    · split at h
      · rename_i hk; cases h; exact lv_astore_n hx hb hd rfl hl hk rfl (fun ls' h' => k ls' (y_L_put hk h') (pl _ _))
      · cases h
    · split at h
      · rename_i hk; cases h; exact lv_astore_nN hx hb hd rfl hl hk rfl (fun ls' h' => k ls' (y_L_put hk h') (pl _ _))
      · cases h
    · cases h
  · split at h
    · rename_i x hg
      split at h
      · rename_i hk
        cases h
        have hget : (_, Value.int x) ∈ y_as 0 L := (y_as_mem L 0 _ _).mpr ⟨Nat.zero_le _, by rw [Nat.sub_zero]; exact x_get_i hg⟩
        obtain ⟨q, hq⟩ := List.getElem?_of_mem hget
        exact lv_iinc hx hb hd hl hq rfl hk rfl (fun ls' h' => k ls' (y_L_put hk h') (pl _ _))
      · cases h
    · cases h
  · cases h
theorem x_ok_i {pc : Nat} {off : Int} (h : x_ok pc off = true) : (pc : Int) + off = (x_to pc off : Nat) := by
  have h : (0 : Int) ≤ (pc : Int) + off := of_decide_eq_true h
  unfold x_to
  omega
/-- a decode row of an instruction that goes on elsewhere: its length is free -/
theorem y_br {i : Instr} {n : Nat} {st st' : List Value} {pc' : Nat} (hx : p.tables.exec = Jvm.exec) (hb : c.code = cc) (hd : decode cc pc = .ok (i, n)) (hn : n = x_len i ∨ (∃ a b d o, i = .tableswitch a b d o) ∨ ∃ a b, i = .lookupswitch a b) (h : x_br i pc st = some (pc', st'))
    (k : W p l e R s m args below meth c H locs cells slots Q (F0 m pc' ls st')) : W p l e R s m args below meth c H locs cells slots Q (F0 m pc ls st) := by
  unfold x_br at h
  split at h
  · obtain rfl : n = 3 := by rcases hn with h | ⟨_, _, _, _, h⟩ | ⟨_, _, h⟩; exact h; cases h; cases h
    split at h
    · rename_i ho; cases h; exact lv_goto hx hb hd (x_ok_i ho) k
    · cases h
  · rename_i cd off
    obtain rfl : n = 3 := by rcases hn with h | ⟨_, _, _, _, h⟩ | ⟨_, _, h⟩; exact h; cases h; cases h
    split at h
    · split at h
      · rename_i x r ho
        cases h
        cases cd with
        | eq => exact lv_if_eq hx hb hd (x_ok_i ho) (fun q => by simpa [x_cmp, q] using k) (fun q => by simpa [x_cmp, q] using k)
        | ne => exact lv_if_ne hx hb hd (x_ok_i ho) (fun q => by simpa [x_cmp, q] using k) (fun q => by simpa [x_cmp, q] using k)
        | lt => exact lv_if_lt hx hb hd (x_ok_i ho) (fun q => by simpa [x_cmp, q] using k) (fun q => by simpa [x_cmp, q] using k)
        | ge => exact lv_if_ge hx hb hd (x_ok_i ho) (fun q => by simpa [x_cmp, q] using k) (fun q => by simpa [x_cmp, q] using k)
        | gt => exact lv_if_gt hx hb hd (x_ok_i ho) (fun q => by simpa [x_cmp, q] using k) (fun q => by simpa [x_cmp, q] using k)
        | le => exact lv_if_le hx hb hd (x_ok_i ho) (fun q => by simpa [x_cmp, q] using k) (fun q => by simpa [x_cmp, q] using k)
      · cases h
    · cases h
  · rename_i cd off
    obtain rfl : n = 3 := by rcases hn with h | ⟨_, _, _, _, h⟩ | ⟨_, _, h⟩; exact h; cases h; cases h
    split at h
    · split at h
      · rename_i x r ho
        cases h
        cases cd with
        | eq => exact lv_icmp_eq hx hb hd (x_ok_i ho) (fun q => by simpa [x_cmp, q] using k) (fun q => by simpa [x_cmp, q] using k)
        | ne => exact lv_icmp_ne hx hb hd (x_ok_i ho) (fun q => by simpa [x_cmp, q] using k) (fun q => by simpa [x_cmp, q] using k)
        | lt => exact lv_icmp_lt hx hb hd (x_ok_i ho) (fun q => by simpa [x_cmp, q] using k) (fun q => by simpa [x_cmp, q] using k)
        | ge => exact lv_icmp_ge hx hb hd (x_ok_i ho) (fun q => by simpa [x_cmp, q] using k) (fun q => by simpa [x_cmp, q] using k)
        | gt => exact lv_icmp_gt hx hb hd (x_ok_i ho) (fun q => by simpa [x_cmp, q] using k) (fun q => by simpa [x_cmp, q] using k)
        | le => exact lv_icmp_le hx hb hd (x_ok_i ho) (fun q => by simpa [x_cmp, q] using k) (fun q => by simpa [x_cmp, q] using k)
      · cases h
    · cases h
  · obtain rfl : n = 3 := by rcases hn with h | ⟨_, _, _, _, h⟩ | ⟨_, _, h⟩; exact h; cases h; cases h
    split at h
    · cases h; exact lv_ifnull hx hb hd k
    · split at h
      · rename_i ho; cases h; exact lv_ifnullN hx hb hd (x_ok_i ho) k
      · cases h
    · cases h
  · obtain rfl : n = 3 := by rcases hn with h | ⟨_, _, _, _, h⟩ | ⟨_, _, h⟩; exact h; cases h; cases h
    split at h
    · split at h
      · rename_i ho; cases h; exact lv_ifnonnull hx hb hd (x_ok_i ho) k
      · cases h
    · cases h; exact lv_ifnonnullN hx hb hd k
    · cases h
  · split at h
    · split at h
      · rename_i x r off hoff
        split at h
        · rename_i ho
          cases h
          unfold x_tab at hoff
          split at hoff
          · rename_i hr; cases hoff; exact lv_tableOut hx hb hd hr (x_ok_i ho) k
          · rename_i hr
            exact lv_tableIn hx hb hd (fun q => hr (Or.inl q)) (fun q => hr (Or.inr q)) hoff (x_ok_i ho) k
        · cases h
      · cases h
    · cases h
  · split at h
    · split at h
      · rename_i hp
        split at h
        · rename_i ho
          cases h
          exact lv_lookup hx hb hd hp rfl (x_ok_i ho) k
        · cases h
      · cases h
    · cases h
  · cases h
end YS

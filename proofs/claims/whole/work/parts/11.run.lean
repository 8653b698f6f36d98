/-! instructions that touch cells; calls; runs -/
def x_words (st : List Value) : Nat := (st.map fun v => v.category).sum
def x_arr0 (t n : Nat) : CE := if t = 1 then .inl (1, n, .inr (.inl (fun _ => 0))) else if 4 ≤ t then .inl (t, n, .inr (.inr (.inr (.inr (fun _ => none))))) else .inl (t, n, .inl (fun _ => 0))
def x_aty : ArrayType → Option Nat
  | .int => some 0
  | .long => some 1
  | .byte => some 2
  | .boolean => some 3
  | _ => none
/-- the array type of an array's elements -/
def x_sub (t : Nat) : Nat := if t = 6 then 0 else if t = 7 then 6 else if t = 8 then 2 else if t = 9 then 8 else 9
/-- cells that an array of arrays takes -/
def x_msz : List Nat → Nat
  | [] => 0
  | [_] => 1
  | n :: (k :: r) => 1 + n * x_msz (k :: r)
def x_iter (f : Hp → Hp) : Nat → Hp → Hp
  | 0, A => A
  | k + 1, A => f (x_iter f k A)
def x_multi : List Nat → Nat → Hp → Hp
  | [], _, A => A
  | [n], t, A => h_push A (x_arr0 t n) n
  | n :: (k :: r), t, A => x_iter (x_multi (k :: r) (x_sub t)) n (h_push A (.inl (t, n, .inr (.inr (.inr (.inr (fun i => if i < n then some (A.2.1 + 1 + i * x_msz (k :: r)) else none)))))) n)
/-- a value that a field of this default takes -/
def x_fit (t : Nat) (v : Value) : Bool := match v with
  | .int x => t == 0 || (t == 1 && (x == 0 || x == 1))
  | .ref _ => t == 2
  | .null => t == 2
  | .long _ => t == 3
  | _ => false
def x_str (A : Hp) (a : Nat) : Option (Nat × (Nat → Int32)) := match A.1 a with
  | some (.inl (99, n, .inl f)) => some (n, f)
  | _ => none
def x_cpI (A : Hp) (a b : Nat) (sp dp n : Int32) : Option Hp := match A.1 a, A.1 b with
  | some (.inl (t, k, .inl f)), some (.inl (u, j, .inl g)) =>
    if t == u && (t == 0 || t == 2) && !decide (a = b) && !decide (sp < 0) && !decide (dp < 0) && !decide (n < 0) && decide (sp.toNatClampNeg + n.toNatClampNeg ≤ k) && decide (dp.toNatClampNeg + n.toNatClampNeg ≤ j) then
      some (h_set A b (.inl (u, j, .inl (va_cpy f g sp.toNatClampNeg dp.toNatClampNeg n.toNatClampNeg)))) else none
  | some (.inl (1, k, .inr (.inl f))), some (.inl (1, j, .inr (.inl g))) =>
    if !decide (a = b) && !decide (sp < 0) && !decide (dp < 0) && !decide (n < 0) && decide (sp.toNatClampNeg + n.toNatClampNeg ≤ k) && decide (dp.toNatClampNeg + n.toNatClampNeg ≤ j) then
      some (h_set A b (.inl (1, j, .inr (.inl (va_cpy f g sp.toNatClampNeg dp.toNatClampNeg n.toNatClampNeg))))) else none
  | _, _ => none
def x_cln (k : Nat) (A : Hp) (a : Nat) : Option Hp := match A.1 a with
  | some (.inl (0, n, .inl f)) => if k = 316 then some (h_push A (.inl (0, n, .inl f)) n) else none
  | some (.inl (1, n, .inr (.inl f))) => if k = 316 then none else some (h_push A (.inl (1, n, .inr (.inl f))) n)
  | _ => none
def x_jS (z : Option Nat) : Bool := z == some 1 || z == some 2 || z == some 3 || z == some 7
def x_jV (z : Option Nat) : Bool := z == some 8 || z == some 9 || z == some 11
def x_jI (z : Option Nat) : Bool := z == some 10
def x_jdk (o k : Nat) (st : List Value) (A : Hp) : Option (List Value × Hp) := match t_jdk o k with
  | some 1 => (match st with | .int y :: .int x :: r => some (.int (if y < x then y else x) :: r, A) | _ => none)
  | some 2 => (match st with | .int y :: .int x :: r => some (.int (if x < y then y else x) :: r, A) | _ => none)
  | some 3 => (match st with | .long y :: .long x :: r => some (.long (if y < x then y else x) :: r, A) | _ => none)
  | some 7 => (match st with | .int n :: .int dp :: .ref b :: .int sp :: .ref a :: r => (x_cpI A a b sp dp n).map (fun A' => (r, A')) | _ => none)
  | some 8 => (match st with | .ref a :: r => (x_str A a).map (fun z => (.int (Int32.ofNat z.1) :: r, A)) | _ => none)
  | some 9 => (match st with | .int i :: .ref a :: r => (match x_str A a with | some (n, f) => if x_in i n then some (.int (f i.toNatClampNeg) :: r, A) else none | none => none) | _ => none)
  | some 10 => (match st with | .ref a :: r => if (x_cls A a).isSome then some (r, A) else none | _ => none)
  | some 11 => (match st with | .ref a :: r => (x_cln k A a).map (fun A' => (.ref A.2.1 :: r, A')) | _ => none)
  | _ => none
def x_dims : Nat → List Value → Option (List Nat × List Value)
  | 0, st => some ([], st)
  | d + 1, .int n :: st => if n < 0 ∨ 5000 < n.toNatClampNeg then none else (x_dims d st).map (fun z => (z.1 ++ [n.toNatClampNeg], z.2))
  | _ + 1, _ => none
def x_mem (m : Nat) (i : Instr) (st : List Value) (A : Hp) : Option (List Value × Hp) := match i with
  | .getfield k => (match t_fld (t_own m) k, st with
    | some (c, j), .ref a :: r => (x_fld A a c j).map (fun v => (v :: r, A))
    | _, _ => none)
  | .putfield k => (match t_fld (t_own m) k, st with
    | some (c, j), v :: .ref a :: r => if x_fit (t_ft c j) v && (!t_fin c j || (t_isi m && c == t_own m)) then (x_fldS A a c j v).map (fun A' => (r, A')) else none
    | _, _ => none)
  | .arraylength => (match st with | .ref a :: r => (x_alen A a).map (fun n => (.int (Int32.ofNat n) :: r, A)) | _ => none)
  | .iaload => (match st with | .int i :: .ref a :: r => (x_ai A a i (fun t => t == 0 || t == 98)).map (fun v => (.int v :: r, A)) | _ => none)
  | .baload => (match st with | .int i :: .ref a :: r => (x_ai A a i (fun t => t == 2 || t == 3)).map (fun v => (.int v :: r, A)) | _ => none)
  | .laload => (match st with | .int i :: .ref a :: r => (x_al A a i).map (fun v => (.long v :: r, A)) | _ => none)
  | .aaload => (match st with | .int i :: .ref a :: r => (x_aq A a i).map (fun v => (va_rf v :: r, A)) | _ => none)
  | .iastore => (match st with | .int x :: .int i :: .ref a :: r => (x_aiS A a i x).map (fun A' => (r, A')) | _ => none)
  | .bastore => (match st with | .int x :: .int i :: .ref a :: r => (x_abS A a i x).map (fun A' => (r, A')) | _ => none)
  | .lastore => (match st with | .long x :: .int i :: .ref a :: r => (x_alS A a i x).map (fun A' => (r, A')) | _ => none)
  | .aastore => (match st with
    | .ref y :: .int i :: .ref a :: r => (x_aqS A a i y).map (fun A' => (r, A'))
    | .null :: .int i :: .ref a :: r => (x_aqN A a i).map (fun A' => (r, A'))
    | _ => none)
  | .new k => (match t_new (t_own m) k with
    | some c => some (.ref A.2.1 :: st, h_push A (.inr (c, t_df.getD c [])) (t_nf.getD c 0))
    | none => none)
  | .newarray ty => (match x_aty ty, st with
    | some t, .int n :: r => if n < 0 ∨ 1000000 < n.toNatClampNeg then none else some (.ref A.2.1 :: r, h_push A (x_arr0 t n.toNatClampNeg) n.toNatClampNeg)
    | _, _ => none)
  | .anewarray k => (match t_new (t_own m) k, st with
    | some c, .int n :: r => if n < 0 ∨ 1000000 < n.toNatClampNeg then none else if c = 6 then some (.ref A.2.1 :: r, h_push A (x_arr0 4 n.toNatClampNeg) n.toNatClampNeg)
      else if c = 0 then some (.ref A.2.1 :: r, h_push A (x_arr0 5 n.toNatClampNeg) n.toNatClampNeg) else none
    | _, _ => none)
  | .multianewarray k d => (match t_mul (t_own m) k, x_dims d st with
    | some t, some (ds, r) => if (t == 6 && d == 2) || (t == 7 && d == 3) || (t == 10 && d == 4) then some (.ref A.2.1 :: r, x_multi ds t A) else none
    | _, _ => none)
  | .checkcast k => (match t_mul (t_own m) k, st with
    | some t, .ref a :: r => (match A.1 a with | some (.inl (u, _, _)) => if t == u && (t == 0 || t == 1) then some (.ref a :: r, A) else none | _ => none)
    | _, _ => none)
  | .ldc k => (match t_con (t_own m) k, t_str (t_own m) k with
    | some v, _ => some (.int v :: st, A)
    | none, some j => some (.ref (A.2.2.2 j) :: st, A)
    | none, none => none)
  | .ldc_w k => (match t_con (t_own m) k with
    | some v => some (.int v :: st, A)
    | none => none)
  | .ldc2_w k => (match t_conL (t_own m) k with
    | some v => some (.long v :: st, A)
    | none => none)
  | .invokestatic k => if x_words st ≤ 100 ∧ x_jS (t_jdk (t_own m) k) = true then x_jdk (t_own m) k st A else none
  | .invokevirtual k => if x_words st ≤ 100 ∧ x_jV (t_jdk (t_own m) k) = true then x_jdk (t_own m) k st A else none
  | .invokespecial k => if x_words st ≤ 100 ∧ x_jI (t_jdk (t_own m) k) = true then x_jdk (t_own m) k st A else none
  | _ => none
/-- one instruction that stays in its method -/
def x_loc (m : Nat) (i : Instr) (pc : Nat) (l : Lc) (st : List Value) (A : Hp) : Option (Nat × Lc × List Value × Hp) :=
  match x_stk i st with
  | some st' => some (pc + x_len i, l, st', A)
  | none => match x_lcl i l st with
    | some (l', st') => some (pc + x_len i, l', st', A)
    | none => match x_br i pc st with
      | some (pc', st') => some (pc', l, st', A)
      | none => match x_mem m i st A with
        | some (st', A') => some (pc + x_len i, l, st', A')
        | none => none
/-- the end of a method -/
def x_fin (m : Nat) (i : Instr) (st : List Value) : Option (Option Value) := match i, st with
  | .return_, [] => if t_ret m = 0 then some none else none
  | .ireturn, [.int v] => if t_ret m = 1 then some (some (.int v)) else if t_ret m = 2 ∧ (v = 0 ∨ v = 1) then some (some (.int v)) else none
  | .lreturn, [.long v] => if t_ret m = 3 then some (some (.long v)) else none
  | .areturn, [.ref a] => if t_ret m = 4 then some (some (.ref a)) else none
  | .areturn, [.null] => if t_ret m = 4 then some (some .null) else none
  | _, _ => none
/-- throw new E("..") -/
def x_thr (m : Nat) (i : Instr) (l : Lc) (st : List Value) (A : Hp) : Option (Nat × Hp) := match i with
  | .new k => if l.length = t_maxl m ∧ x_words st ≤ 8 then (t_exc (t_own m) k).map (fun E => (E, h_lost A 6)) else none
  | _ => none
/-- the callee's arguments, first first, and what is left of the operand stack -/
def x_pop : Nat → List Value → Option (List Value × List Value)
  | 0, st => some ([], st)
  | d + 1, v :: st => (x_pop d st).map (fun z => (z.1 ++ [v], z.2))
  | _ + 1, [] => none
def x_recv (A : Hp) (m' : Nat) (as : List Value) : Bool := match as with
  | .ref a :: _ => x_cls A a == some (t_own m')
  | _ => false
def x_arg : List Value → Lc
  | [] => []
  | v :: r => if v.category = 2 then some v :: none :: x_arg r else some v :: x_arg r
def x_cal (o : Nat) (i : Instr) (st : List Value) (A : Hp) : Option (Nat × List Value × List Value) := match i with
  | .invokestatic k => (match t_cal o k with
    | some (kd, m', n) => (match x_pop n st with
      | some (as, r) => if (kd == 0 || kd == 5) && decide (x_words r ≤ 8) && decide ((x_arg as).length ≤ t_maxl m') then some (m', as, r) else none
      | none => none)
    | none => none)
  | .invokevirtual k => (match t_cal o k with
    | some (kd, m', n) => (match x_pop (n + 1) st with
      | some (as, r) => if (kd == 1 || kd == 4) && decide (x_words r ≤ 8) && decide ((x_arg as).length ≤ t_maxl m') && x_recv A m' as then some (m', as, r) else none
      | none => none)
    | none => none)
  | .invokespecial k => (match t_cal o k with
    | some (kd, m', n) => (match x_pop (n + 1) st with
      | some (as, r) => if (kd == 2 || kd == 3) && decide (x_words r ≤ 8) && decide ((x_arg as).length ≤ t_maxl m') && x_recv A m' as then some (m', as, r) else none
      | none => none)
    | none => none)
  | _ => none
def x_entry (m : Nat) (as : List Value) : Lc := x_arg as ++ List.replicate (t_maxl m - (x_arg as).length) none
/-- a handler begins by keeping what was caught: where it goes on, in which local -/
def x_hst (m h : Nat) : Option (Nat × Nat) := match t_ins m h with
  | some (.astore_n k) => some (h + 1, k)
  | some (.astore k) => some (h + 2, k)
  | _ => none
def x_putN (l : Lc) (k : Nat) : Lc := (x_kill l k).set k none
def x_ctch (m pc E : Nat) : Option (Nat × Nat) := (x_hnd m pc E).bind (x_hst m)
def x_run : Nat → Nat → Nat → Nat → Lc → List Value → Hp → Option (XO × Hp)
  | 0, _, _, _, _, _, _ => none
  | f + 1, d, m, pc, l, st, A => match t_ins m pc with
    | none => none
    | some i => match x_loc m i pc l st A with
      | some (pc', l', st', A') => x_run f d m pc' l' st' A'
      | none => match x_fin m i st with
        | some v => some (.inl v, A)
        | none => match x_thr m i l st A with
          | some (q, A') => some (.inr q, A')
          | none => match d with
            | 0 => none
            | d' + 1 => match x_cal (t_own m) i st A with
              | none => none
              | some (m', as, r) => match x_run f d' m' 0 (x_entry m' as) [] A with
                | some (.inl v, A') => x_run f (d' + 1) m (pc + 3) l (v.toList ++ r) A'
                | some (.inr q, A') => match x_hnd m pc q with
                  | some h => match x_hst m h with
                    | some (h', k) => if k < l.length then x_run f (d' + 1) m h' (x_putN l k) [] A' else none
                    | none => none
                  | none => if (t_han m).isEmpty then some (.inr q, A') else none
                | none => none
/-- the method, from here on, comes to an end with Q -/
def XX (d m pc : Nat) (l : Lc) (st : List Value) (A : Hp) (Q : XO → Hp → Prop) : Prop := ∃ (f : Nat) (o : XO) (A' : Hp), x_run f d m pc l st A = some (o, A') ∧ Q o A'
/-- a call of a method -/
def XC (d m : Nat) (as : List Value) (A : Hp) (Q : XO → Hp → Prop) : Prop := XX d m 0 (x_entry m as) [] A Q
/-- what a caller goes on with -/
def XK (d m pc : Nat) (l : Lc) (r : List Value) (Q : XO → Hp → Prop) : XO → Hp → Prop := fun o A => match o with
  | .inl v => XX d m (pc + 3) l (v.toList ++ r) A Q
  | .inr q => match x_hnd m pc q with
    | some h => match x_hst m h with
      | some (h', k) => if k < l.length then XX d m h' (x_putN l k) [] A Q else False
      | none => False
    | none => if (t_han m).isEmpty then Q (.inr q) A else False
theorem x_run_mono : ∀ (f d m pc : Nat) (l : Lc) (st : List Value) (A : Hp) (o : XO × Hp), x_run f d m pc l st A = some o → x_run (f + 1) d m pc l st A = some o
  | 0, d, m, pc, l, st, A, o, h => by simp [x_run] at h
  | f + 1, d, m, pc, l, st, A, o, h => by
    rw [x_run] at h ⊢
    cases e1 : t_ins m pc with
    | none => rw [e1] at h; exact h
    | some i =>
      rw [e1] at h
      dsimp only at h ⊢
      cases e2 : x_loc m i pc l st A with
      | some z =>
        obtain ⟨pc', l', st', A'⟩ := z
        rw [e2] at h
        exact x_run_mono f _ _ _ _ _ _ _ h
      | none =>
        rw [e2] at h
        dsimp only at h ⊢
        cases e3 : x_fin m i st with
        | some v => rw [e3] at h; exact h
        | none =>
          rw [e3] at h
          dsimp only at h ⊢
          cases e4 : x_thr m i l st A with
          | some q => rw [e4] at h; exact h
          | none =>
            rw [e4] at h
            dsimp only at h ⊢
            cases d with
            | zero => exact h
            | succ d' =>
              dsimp only at h ⊢
              cases e5 : x_cal (t_own m) i st A with
              | none => rw [e5] at h; exact h
              | some z =>
                obtain ⟨m', as, r⟩ := z
                rw [e5] at h
                dsimp only at h ⊢
                cases e6 : x_run f d' m' 0 (x_entry m' as) [] A with
                | none => rw [e6] at h; cases h
                | some z =>
                  obtain ⟨oo, A'⟩ := z
                  rw [x_run_mono f _ _ _ _ _ _ _ e6]
                  rw [e6] at h
                  cases oo with
                  | inl v => exact x_run_mono f _ _ _ _ _ _ _ h
                  | inr q =>
                    dsimp only at h ⊢
                    cases e7 : x_hnd m pc q with
                    | none => rw [e7] at h; exact h
                    | some hh =>
                      rw [e7] at h
                      dsimp only at h ⊢
                      cases e8 : x_hst m hh with
                      | none => rw [e8] at h; cases h
                      | some w =>
                        obtain ⟨h', k⟩ := w
                        rw [e8] at h
                        dsimp only at h ⊢
                        split at h
                        · rename_i hk
                          rw [if_pos hk]
                          exact x_run_mono f _ _ _ _ _ _ _ h
                        · cases h
theorem x_run_le {f g d m pc : Nat} {l : Lc} {st : List Value} {A : Hp} {o : XO × Hp} (hfg : f ≤ g) (h : x_run f d m pc l st A = some o) : x_run g d m pc l st A = some o := by
  obtain ⟨k, rfl⟩ := Nat.le.dest hfg
  clear hfg
  induction k with
  | zero => exact h
  | succ k ih => exact x_run_mono _ _ _ _ _ _ _ _ ih
theorem XX_loc {d m pc : Nat} {l : Lc} {st : List Value} {A : Hp} {Q : XO → Hp → Prop} {i : Instr} {z : Nat × Lc × List Value × Hp} (h1 : t_ins m pc = some i) (h2 : x_loc m i pc l st A = some z) : XX d m pc l st A Q ↔ XX d m z.1 z.2.1 z.2.2.1 z.2.2.2 Q := by
  obtain ⟨pc', l', st', A'⟩ := z
  constructor
  · rintro ⟨f, o, B, h, q⟩
    cases f with
    | zero => simp [x_run] at h
    | succ f =>
      rw [x_run, h1] at h
      dsimp only at h
      rw [h2] at h
      exact ⟨f, o, B, h, q⟩
  · rintro ⟨f, o, B, h, q⟩
    refine ⟨f + 1, o, B, ?_, q⟩
    rw [x_run, h1]
    dsimp only
    rw [h2]
    exact h
theorem XX_fin {d m pc : Nat} {l : Lc} {st : List Value} {A : Hp} {Q : XO → Hp → Prop} {i : Instr} {v : Option Value} (h1 : t_ins m pc = some i) (h2 : x_loc m i pc l st A = none) (h3 : x_fin m i st = some v) : XX d m pc l st A Q ↔ Q (.inl v) A := by
  constructor
  · rintro ⟨f, o, B, h, q⟩
    cases f with
    | zero => simp [x_run] at h
    | succ f =>
      rw [x_run, h1] at h
      dsimp only at h
      rw [h2] at h
      dsimp only at h
      rw [h3] at h
      cases h
      exact q
  · intro q
    refine ⟨1, _, A, ?_, q⟩
    rw [x_run, h1]
    dsimp only
    rw [h2]
    dsimp only
    rw [h3]
theorem XX_thr {d m pc : Nat} {l : Lc} {st : List Value} {A A' : Hp} {Q : XO → Hp → Prop} {i : Instr} {v : Nat} (h1 : t_ins m pc = some i) (h2 : x_loc m i pc l st A = none) (h3 : x_fin m i st = none) (h4 : x_thr m i l st A = some (v, A')) : XX d m pc l st A Q ↔ Q (.inr v) A' := by
  constructor
  · rintro ⟨f, o, B, h, q⟩
    cases f with
    | zero => simp [x_run] at h
    | succ f =>
      rw [x_run, h1] at h
      dsimp only at h
      rw [h2] at h
      dsimp only at h
      rw [h3] at h
      dsimp only at h
      rw [h4] at h
      cases h
      exact q
  · intro q
    refine ⟨1, _, A', ?_, q⟩
    rw [x_run, h1]
    dsimp only
    rw [h2]
    dsimp only
    rw [h3]
    dsimp only
    rw [h4]
theorem XX_cal {d m pc : Nat} {l : Lc} {st : List Value} {A : Hp} {Q : XO → Hp → Prop} {i : Instr} {m' : Nat} {as r : List Value} (h1 : t_ins m pc = some i) (h2 : x_loc m i pc l st A = none) (h3 : x_fin m i st = none) (h4 : x_thr m i l st A = none) (h5 : x_cal (t_own m) i st A = some (m', as, r)) : XX (d + 1) m pc l st A Q ↔ XC d m' as A (XK (d + 1) m pc l r Q) := by
  constructor
  · rintro ⟨f, o, B, h, q⟩
    cases f with
    | zero => simp [x_run] at h
    | succ f =>
      rw [x_run, h1] at h
      dsimp only at h
      rw [h2] at h
      dsimp only at h
      rw [h3] at h
      dsimp only at h
      rw [h4] at h
      dsimp only at h
      rw [h5] at h
      dsimp only at h
      cases e6 : x_run f d m' 0 (x_entry m' as) [] A with
      | none => rw [e6] at h; cases h
      | some z =>
        obtain ⟨oo, A'⟩ := z
        rw [e6] at h
        refine ⟨f, oo, A', e6, ?_⟩
        cases oo with
        | inl v => exact ⟨f, o, B, h, q⟩
        | inr q' =>
          dsimp only at h
          show (match x_hnd m pc q' with | some h => (match x_hst m h with | some (h', k) => if k < l.length then XX (d + 1) m h' (x_putN l k) [] A' Q else False | none => False) | none => if (t_han m).isEmpty then Q (.inr q') A' else False)
          cases e7 : x_hnd m pc q' with
          | none =>
            rw [e7] at h
            dsimp only at h ⊢
            split at h
            · rename_i hemp
              rw [if_pos hemp]
              cases h
              exact q
            · cases h
          | some hh =>
            rw [e7] at h
            dsimp only at h ⊢
            cases e8 : x_hst m hh with
            | none => rw [e8] at h; cases h
            | some w =>
              obtain ⟨h', k⟩ := w
              rw [e8] at h
              dsimp only at h ⊢
              split at h
              · rename_i hk
                rw [if_pos hk]
                exact ⟨f, o, B, h, q⟩
              · cases h
  · rintro ⟨f, oo, A', e6, hk⟩
    cases oo with
    | inl v =>
      obtain ⟨g, o, B, h, q⟩ := hk
      refine ⟨max f g + 1, o, B, ?_, q⟩
      rw [x_run, h1]
      dsimp only
      rw [h2]
      dsimp only
      rw [h3]
      dsimp only
      rw [h4]
      dsimp only
      rw [h5]
      dsimp only
      rw [x_run_le (Nat.le_max_left f g) e6]
      exact x_run_le (Nat.le_max_right f g) h
    | inr q' =>
      have hk : (match x_hnd m pc q' with | some h => (match x_hst m h with | some (h', k) => if k < l.length then XX (d + 1) m h' (x_putN l k) [] A' Q else False | none => False) | none => if (t_han m).isEmpty then Q (.inr q') A' else False) := hk
      cases e7 : x_hnd m pc q' with
      | none =>
        rw [e7] at hk
        dsimp only at hk
        by_cases hemp : (t_han m).isEmpty = true
        case neg => rw [if_neg hemp] at hk; exact absurd hk id
        rw [if_pos hemp] at hk
        refine ⟨f + 1, .inr q', A', ?_, hk⟩
        rw [x_run, h1]
        dsimp only
        rw [h2]
        dsimp only
        rw [h3]
        dsimp only
        rw [h4]
        dsimp only
        rw [h5]
        dsimp only
        rw [e6]
        dsimp only
        rw [e7]
        dsimp only
        rw [if_pos hemp]
      | some hh =>
        rw [e7] at hk
        dsimp only at hk
        cases e8 : x_hst m hh with
        | none => rw [e8] at hk; exact absurd hk id
        | some w =>
        obtain ⟨h', k⟩ := w
        rw [e8] at hk
        dsimp only at hk
        by_cases hkl : k < l.length
        case neg => rw [if_neg hkl] at hk; exact absurd hk id
        rw [if_pos hkl] at hk
        obtain ⟨g, o, B, h, q⟩ := hk
        refine ⟨max f g + 1, o, B, ?_, q⟩
        rw [x_run, h1]
        dsimp only
        rw [h2]
        dsimp only
        rw [h3]
        dsimp only
        rw [h4]
        dsimp only
        rw [h5]
        dsimp only
        rw [x_run_le (Nat.le_max_left f g) e6]
        dsimp only
        rw [e7]
        dsimp only
        rw [e8]
        dsimp only
        rw [if_pos hkl]
        exact x_run_le (Nat.le_max_right f g) h

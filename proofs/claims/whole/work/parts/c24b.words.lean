/-! the world at the law's entry -/
def y_FL : List Cond := flatC narrow_1
def y_sb (i : Nat) : Nat := ([69, 101, 114, 123, 132, 145, 156, 212, 235] : List Nat).getD i 0
def y_tm (i : Nat) : Term := .string (y_own (t_sr.getD i (0, 0, [])).1) (t_sr.getD i (0, 0, [])).2.1
def y_len : List Nat := t_sr.map fun e => e.2.2.length
def y_byt : List (List Int32) := t_sr.map fun e => e.2.2.map Int32.ofNat
def y_JS : String := "java/lang/String"
theorem y_so1 : ∀ i : Nat, i < 9 → y_FL[y_sb i]? = some (Cond.exactly (y_tm i) "java/lang/String") := by decide +kernel
theorem y_so2 : ∀ i : Nat, i < 9 → y_FL[y_sb i + 1]? = some (Cond.eq (.field (y_tm i) "java/lang/String" "coder" "B") (.int 0)) := by decide +kernel
theorem y_so3 : ∀ i : Nat, i < 9 → y_FL[y_sb i + 2]? = some (Cond.arrayOf (.field (y_tm i) "java/lang/String" "value" "[B") .byte) := by decide +kernel
theorem y_so4 : ∀ i : Nat, i < 9 → y_FL[y_sb i + 3]? = some (Cond.eq (.length (.field (y_tm i) "java/lang/String" "value" "[B")) (.int (Int32.ofNat (y_len.getD i 0)))) := by decide +kernel
theorem y_so5 : ∀ i : Nat, i < 9 → ∀ j : Nat, j < y_len.getD i 0 → y_FL[y_sb i + 4 + j]? = some (Cond.eq (.elem (.field (y_tm i) "java/lang/String" "value" "[B") (.int (Int32.ofNat j))) (.int ((y_byt.getD i []).getD j 0))) := by decide +kernel
theorem y_so6 : ∀ j : Nat, j < 9 → ∀ i : Nat, i < j → y_FL[y_sb j + 4 + y_len.getD j 0 + i]? = some (Cond.not (Cond.eq (y_tm i) (y_tm j))) := by decide +kernel
theorem y_so7 : ∀ i : Nat, i < 5 → Cond.eq (y_tm (i + 1)) (y_tm (i + 9)) ∈ y_FL := by decide +kernel
theorem y_so8 : Cond.not (.castable (y_exn 1) (y_exn 0)) ∈ y_FL := by decide +kernel
theorem y_so9 : Cond.isRef (.static Bundle.tN "UNASSIGNED_STACK" Bundle.steD) ∈ y_FL ∧ Cond.isRef (.static Bundle.tN "SUPPRESSED_SENTINEL" Bundle.listD) ∈ y_FL ∧ Cond.laysStatic Bundle.tN "UNASSIGNED_STACK" Bundle.steD ∈ lw_tbl ∧ Cond.laysStatic Bundle.tN "SUPPRESSED_SENTINEL" Bundle.listD ∈ lw_tbl ∧ Cond.initialized Bundle.tN ∈ lw_tbl := by decide +kernel
theorem y_so10 : Cond.eq (.static "java/lang/String" "COMPACT_STRINGS" "Z") (.int 1) ∈ y_FL ∧ Cond.isRef (.static "jdk/internal/util/Preconditions" "SIOOBE_FORMATTER" "Ljava/util/function/BiFunction;") ∈ y_FL ∧ Cond.laysStatic "java/lang/String" "COMPACT_STRINGS" "Z" ∈ lw_tbl ∧ Cond.laysStatic "jdk/internal/util/Preconditions" "SIOOBE_FORMATTER" "Ljava/util/function/BiFunction;" ∈ lw_tbl ∧ Cond.initialized "java/lang/String" ∈ lw_tbl ∧ Cond.initialized "jdk/internal/util/Preconditions" ∈ lw_tbl := by decide +kernel
theorem y_kn {s : State} {args : Array Value} (hts : ∀ w ∈ lw_tbl, w.before args s = true) : ∀ (ci : Nat) (r : vw_C), vwCl[ci]? = some r → ∃ q : ClassId × (Nat → Nat), u_Kn s r.1 r.2.1 r.2.2 q.1 q.2 :=
  y_cl_all (P := fun _ r => ∃ q : ClassId × (Nat → Nat), u_Kn s r.1 r.2.1 r.2.2 q.1 q.2)
    (by obtain ⟨c, i, h⟩ := u_known hts inX0 (hts _ y_in_0); exact ⟨(c, i), h⟩)
    (by obtain ⟨c, i, h⟩ := u_known hts inX1 (hts _ y_in_1); exact ⟨(c, i), h⟩)
    (by obtain ⟨c, i, h⟩ := u_known hts inX2 (hts _ y_in_2); exact ⟨(c, i), h⟩)
    (by obtain ⟨c, i, h⟩ := u_known hts inX3 (hts _ y_in_3); exact ⟨(c, i), h⟩)
    (by obtain ⟨c, i, h⟩ := u_known hts inX4 (hts _ y_in_4); exact ⟨(c, i), h⟩)
    (by obtain ⟨c, i, h⟩ := u_known hts inX5 (hts _ y_in_5); exact ⟨(c, i), h⟩)
    (by obtain ⟨c, i, h⟩ := u_known hts inX6 (hts _ y_in_6); exact ⟨(c, i), h⟩)
    (by obtain ⟨c, i, h⟩ := u_known hts inX7 (hts _ y_in_7); exact ⟨(c, i), h⟩)
    (by obtain ⟨c, i, h⟩ := u_known hts inX8 (hts _ y_in_8); exact ⟨(c, i), h⟩)
    (by obtain ⟨c, i, h⟩ := u_known hts inX9 (hts _ y_in_9); exact ⟨(c, i), h⟩)
    (by obtain ⟨c, i, h⟩ := u_known hts inX10 (hts _ y_in_10); exact ⟨(c, i), h⟩)
    (by obtain ⟨c, i, h⟩ := u_known hts inX11 (hts _ y_in_11); exact ⟨(c, i), h⟩)
    (by obtain ⟨c, i, h⟩ := u_known hts inX12 (hts _ y_in_12); exact ⟨(c, i), h⟩)
theorem y_ar1 {s : State} {args : Array Value} {ty : FieldType} (h : (Cond.arrayClass ty).before args s = true) : ∃ cA, ArrOfT s cA ty ∧ s.vm.findClass ("[" ++ ty.toString) = some cA := by
  obtain ⟨c, k, comp, h1, h2, h3⟩ := Cond.arrayClass_spec h
  exact ⟨c, fun n z => ⟨(fun k h => by cases h), k, h2, comp, h3⟩, h1⟩
theorem y_ar2 {s : State} {args : Array Value} {C : String} (h : (Cond.arrayOver (.object C)).before args s = true) : ∃ cA, ArrOfT s cA (.object C) ∧ va_RA s cA (.object C) := by
  obtain ⟨comp, c, k, h1, h2, h3, h4, h5⟩ := Cond.arrayOver_spec h
  exact ⟨c, fun n z => ⟨(fun k h => by cases h), k, h3, comp, h4⟩, k, comp, h3, h4, h1, h5⟩
theorem y_ar3 {s : State} {args : Array Value} {t : FieldType} (h : (Cond.arrayOver (.array t)).before args s = true) : ∃ cA, ArrOfT s cA (.array t) ∧ va_RA s cA (.array t) := by
  obtain ⟨comp, c, k, h1, h2, h3, h4⟩ := y_aoSpec h
  exact ⟨c, fun n z => ⟨(fun k h => by cases h), k, h2, comp, h3⟩, h4⟩
theorem y_know {s : State} {args : Array Value} (hts : ∀ w ∈ lw_tbl, w.before args s = true) : ∃ (D : va_G) (dA : Nat → ClassId), va_K D vwCl (y_tys dA) s := by
  have h : ∀ ci : Nat, ∃ q : ClassId × (Nat → Nat), ∀ r : vw_C, vwCl[ci]? = some r → u_Kn s r.1 r.2.1 r.2.2 q.1 q.2 := by
    intro ci
    cases hr : vwCl[ci]? with
    | none => exact ⟨(0, fun _ => 0), fun r h => by cases h⟩
    | some r =>
      obtain ⟨q, hq⟩ := y_kn hts ci r hr
      exact ⟨q, fun r' h => by cases h; exact hq⟩
  obtain ⟨F, hF⟩ := Classical.axiomOfChoice h
  obtain ⟨c0, a0, b0⟩ := y_ar1 (hts _ y_ac0)
  obtain ⟨c1, a1, b1⟩ := y_ar1 (hts _ y_ac1)
  obtain ⟨c2, a2, b2⟩ := y_ar1 (hts _ y_ac2)
  obtain ⟨c3, a3, b3⟩ := y_ar1 (hts _ y_ac3)
  obtain ⟨c4, a4, b4⟩ := y_ar2 (hts _ y_ao4)
  obtain ⟨c5, a5, b5⟩ := y_ar2 (hts _ y_ao5)
  obtain ⟨c6, a6, b6⟩ := y_ar3 (hts _ y_aoA.1)
  obtain ⟨c7, a7, b7⟩ := y_ar3 (hts _ y_aoA.2.1)
  obtain ⟨c8, a8, b8⟩ := y_ar3 (hts _ y_aoA.2.2.1)
  obtain ⟨c9, a9, b9⟩ := y_ar3 (hts _ y_aoA.2.2.2.1)
  obtain ⟨c10, a10, b10⟩ := y_ar3 (hts _ y_aoA.2.2.2.2)
  refine ⟨(fun c => (F c).1, fun c => (F c).2), fun t => ([c0, c1, c2, c3, c4, c5, c6, c7, c8, c9, c10] : List ClassId).getD t 0, fun c q hq => hF c q hq, ?_⟩
  intro k q hk
  match k, hk with
  | 0, hk => cases hk; exact ⟨a0, b0⟩
  | 1, hk => cases hk; exact ⟨a1, b1⟩
  | 2, hk => cases hk; exact ⟨a2, b2⟩
  | 3, hk => cases hk; exact ⟨a3, b3⟩
  | 4, hk => cases hk; exact ⟨a4, b4⟩
  | 5, hk => cases hk; exact ⟨a5, b5⟩
  | 6, hk => cases hk; exact ⟨a6, b6⟩
  | 7, hk => cases hk; exact ⟨a7, b7⟩
  | 8, hk => cases hk; exact ⟨a8, b8⟩
  | 9, hk => cases hk; exact ⟨a9, b9⟩
  | 10, hk => cases hk; exact ⟨a10, b10⟩
  | k + 11, hk => cases hk

/-! a callee's contract out of its run -/
theorem y_isi_ok : ∀ m : Nat, m < 273 → t_isi m = true → (y_nm m).name = "<init>" := by decide +kernel
theorem y_hh_0 : ∀ m : Nat, m < 273 → y_isL m = false → (t_han m).isEmpty = true := by decide +kernel
theorem y_rok_i {m : Nat} (h : y_rok m = true) : (t_ret m = 0 → y_rt m = none) ∧ (t_ret m = 1 → y_rt m = some .int) ∧ (t_ret m = 2 → y_rt m = some .boolean) ∧ (t_ret m = 3 → y_rt m = some .long) ∧ (t_ret m = 4 → ∃ t, y_rt m = some t ∧ t.isReference = true) := by
  unfold y_rok at h
  generalize t_ret m = a at h ⊢
  generalize y_rt m = b at h ⊢
  split at h
  · exact ⟨fun _ => rfl, (fun q => absurd q (by decide)), (fun q => absurd q (by decide)), (fun q => absurd q (by decide)), (fun q => absurd q (by decide))⟩
  · exact ⟨(fun q => absurd q (by decide)), fun _ => rfl, (fun q => absurd q (by decide)), (fun q => absurd q (by decide)), (fun q => absurd q (by decide))⟩
  · exact ⟨(fun q => absurd q (by decide)), (fun q => absurd q (by decide)), fun _ => rfl, (fun q => absurd q (by decide)), (fun q => absurd q (by decide))⟩
  · exact ⟨(fun q => absurd q (by decide)), (fun q => absurd q (by decide)), (fun q => absurd q (by decide)), fun _ => rfl, (fun q => absurd q (by decide))⟩
  · rename_i t
    exact ⟨(fun q => absurd q (by decide)), (fun q => absurd q (by decide)), (fun q => absurd q (by decide)), (fun q => absurd q (by decide)), fun _ => ⟨t, rfl, h⟩⟩
  · cases h
theorem y_V.out {D : va_G} {dA : Nat → ClassId} {lo : Nat} {s : State} {B : Hp} {H : Heap} {locs : List Loc} (V : y_V D dA lo s s.heap B H locs) (t : State) (ht : t.heap = H) (hW : s.WarmedH t.vm) : y_Out D dA lo B s t :=
  ⟨by rw [ht]; exact V.1, by rw [ht]; exact (V.2.1.warm hW).q, by rw [ht]; exact V.2.2.2.1, fun q h1 h2 => by rw [ht]; exact V.2.2.2.2.1 q h1 (Nat.not_le.mpr h2)⟩
theorem y_V.outA {D : va_G} {dA : Nat → ClassId} {lo : Nat} {s : State} {B : Hp} {H : Heap} {locs : List Loc} (V : y_V D dA lo s s.heap B H locs) (t : State) (ht : t.heap = H) (hv : y_sq lo t B H) : y_Out D dA lo B s t :=
  ⟨by rw [ht]; exact V.1, by rw [ht]; exact hv, by rw [ht]; exact V.2.2.2.1, fun q h1 h2 => by rw [ht]; exact V.2.2.2.2.1 q h1 (Nat.not_le.mpr h2)⟩
theorem x_arg_len : ∀ vs : List Value, (x_arg vs).length = (lg_sl vs).length
  | [] => rfl
  | v :: r => by
    rw [x_arg, show lg_sl (v :: r) = (if v.category = 2 then [Slot.val v, .second] else [Slot.val v]) ++ lg_sl r from rfl]
    split
    · simp [x_arg_len r]
    · simp [x_arg_len r]
theorem y_arg_in : ∀ (vs : List Value) (k j : Nat) (v : Value) (n : Nat), (j, v) ∈ y_as k (x_arg vs ++ List.replicate n none) → (j, v) ∈ lv_args k vs
  | [], k, j, v, n, h => by
    rw [y_as_mem] at h
    simp only [x_arg, List.nil_append, List.getElem?_replicate] at h
    obtain ⟨-, h⟩ := h
    split at h <;> cases h
  | w :: r, k, j, v, n, h => by
    rw [x_arg] at h
    rw [lv_args]
    split at h
    · rename_i hc
      rw [if_pos hc]
      simp only [List.cons_append, y_as] at h
      rcases List.mem_cons.mp h with h | h
      · rw [h]; exact List.mem_cons_self
      · exact List.mem_cons_of_mem _ (y_arg_in r _ j v n h)
    · rename_i hc
      rw [if_neg hc]
      simp only [List.cons_append, y_as] at h
      rcases List.mem_cons.mp h with h | h
      · rw [h]; exact List.mem_cons_self
      · exact List.mem_cons_of_mem _ (y_arg_in r _ j v n h)
theorem x_entry_len {m : Nat} {as : List Value} (h : (x_arg as).length ≤ t_maxl m) : (x_entry m as).length = t_maxl m := by
  unfold x_entry
  rw [List.length_append, List.length_replicate]
  generalize t_maxl m = z at h ⊢
  omega
theorem y_entry {m : Nat} {as : List Value} {ls : Array Slot} (h : (x_arg as).length ≤ t_maxl m) (hl : lv_has ls (t_maxl m) (lv_args 0 as)) : y_L (x_entry m as) ls := by
  unfold y_L
  rw [x_entry_len h]
  exact ⟨hl.1, hl.2.1, fun q hq => hl.2.2 q (y_arg_in as 0 q.1 q.2 _ hq)⟩
def y_iD : Option Instr → Bool
  | some .dup => true
  | _ => false
def y_iA : Option Instr → Bool
  | some .athrow => true
  | _ => false
def y_iS : Option Instr → Nat → Bool
  | some (.invokespecial k), j => k == j
  | _, _ => false
theorem y_iD_i {o : Option Instr} (h : y_iD o = true) : o = some .dup := by
  unfold y_iD at h
  split at h
  · rfl
  · cases h
theorem y_iA_i {o : Option Instr} (h : y_iA o = true) : o = some .athrow := by
  unfold y_iA at h
  split at h
  · rfl
  · cases h
theorem y_iS_i {o : Option Instr} {j : Nat} (h : y_iS o j = true) : o = some (.invokespecial j) := by
  unfold y_iS at h
  split at h
  · rw [beq_iff_eq.mp h]
  · cases h
/-- where an exception is made: what follows -/
def y_thrOk (m : Nat) (e : Nat × Instr) : Bool := match e.2 with
  | .new k => (match t_exc (t_own m) k with
    | some E => t_own m == 11 && y_iD (t_ins m (e.1 + 3)) && (match t_ins m (e.1 + 4) with | some (.ldc_w j) => (t_str 11 j).isSome | _ => false) && y_iS (t_ins m (e.1 + 7)) (if E = 0 then 346 else 355) && y_iA (t_ins m (e.1 + 10))
    | none => true)
  | _ => true
theorem y_thr_all : ∀ m : Nat, m < 273 → (t_all.getD m []).all (y_thrOk m) = true := by decide +kernel
def y_wN : List Cond := y_atX (y_own 11) 346 "java/util/NoSuchElementException" 13 prog_31_method_4_code "java/lang/RuntimeException" ["java/lang/Exception"]
def y_wI : List Cond := y_atX (y_own 11) 355 "java/lang/IllegalArgumentException" 7 Bundle.six "java/lang/RuntimeException" ["java/lang/Exception"]
theorem y_wN_in : y_wN.all (fun w => decide (w ∈ lw_tbl) && y_gw w && vx_ot w) = true := by decide +kernel
theorem y_wI_in : y_wI.all (fun w => decide (w ∈ lw_tbl) && y_gw w && vx_ot w) = true := by decide +kernel
theorem y_exini0 : Cond.initialized "java/util/NoSuchElementException" ∈ lw_tbl := by decide +kernel
theorem y_exini1 : Cond.initialized "java/lang/IllegalArgumentException" ∈ lw_tbl := by decide +kernel

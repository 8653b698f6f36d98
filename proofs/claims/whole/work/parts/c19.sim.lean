/-! what goes from the caller to the callee and back -/
def y_N (U : State) : Prop := (∀ w ∈ lw_tbl, y_g2 w = true → w.before #[] U = true) ∧ va_Nc (y_exn 1) (y_exn 0) U
theorem y_N.use {U : State} {args : Array Value} {w : Cond} (h : y_N U) (hm : w ∈ lw_tbl) (hg : y_g2 w = true) : w.before args U = true := by
  have h1 := h.1 w hm hg
  cases w with
  | methodLinkNest a b c d => exact va_tabs rfl rfl h1
  | fieldLinkNest a b c d e f => exact va_tabs rfl rfl h1
  | castable a b => exact va_tabs rfl rfl h1
  | declares a => exact va_tabs rfl rfl h1
  | arrayOver t => exact h1
  | _ => cases hg
theorem y_AOA {t : FieldType} {u U : State} (hvm : u.vm.Alike U.vm) (h : (Cond.arrayOver (.array t)).before #[] u = true) : (Cond.arrayOver (.array t)).before #[] U = true := by
  obtain ⟨comp, c, k, h1, h2, h3, h4, h5⟩ := arrayOverA_spec h
  obtain ⟨k', hk', he⟩ := hvm.2.2 _ _ h3
  have hi : (U.vm.classes.findIdx? fun (x : Class) => match x.kind with | .array component _ => component == comp | _ => false) = some c := by
    rw [hvm.findIdx?_eq _ (fun _ => rfl)]
    exact h2
  have hkind : k'.kind = .array comp (.array t) := by rw [he]; exact h4
  have f1 : U.vm.findClass (FieldType.array t).toString = some comp := by rw [hvm.findClass]; exact h1
  have f2 : U.vm.findClass ("[" ++ (FieldType.array t).toString) = some c := by rw [hvm.findClass]; exact h5
  unfold Cond.before Cond.holds
  simp only [Cond.value]
  rw [f1, Option.bind_some]
  refine (congrArg (fun o : Option Nat => (o.bind (fun c => (U.vm.classes[c]?).map fun (k : Class) => match k.kind with | .array _ ty => decide (ty = FieldType.array t) && decide (U.vm.findClass ("[" ++ (FieldType.array t).toString) = some c) | _ => false) == some true)) hi).trans ?_
  simp [hk', hkind, f2]
theorem y_N.warm {s U : State} (hW : s.WarmedH U.vm) (h : y_N s) : y_N U := by
  refine ⟨fun w hm hg => ?_, h.2.moved hW.alike⟩
  have h1 := h.1 w hm hg
  cases w with
  | methodLinkNest a b c d => exact va_Nw.warmM hW h1
  | fieldLinkNest a b c d e f => exact va_Nw.warmF hW h1
  | castable a b => exact va_Nw.warmC hW h1
  | declares a => exact va_Nw.warmD hW h1
  | arrayOver t =>
    cases t with
    | object C => exact va_AO.moved hW.alike h1
    | array w => exact y_AOA hW.alike h1
    | _ => cases hg
  | _ => cases hg
theorem y_N.same {s U : State} (hv : s.vm = U.vm) (h : y_N s) : y_N U := h.warm (by rw [← hv]; exact State.WarmedH.refl s)
theorem y_spc.moved {lo : Nat} {u U : State} {a : Nat} {e : CE} {H : Heap} (hvm : u.vm.Alike U.vm) (h : y_spc lo u a e H) : y_spc lo U a e H := by
  unfold y_spc at h ⊢
  split at h
  · exact h.moved hvm
  · obtain ⟨bs, v, h1, h2, h3, h4, ⟨h5, h6⟩, h7, h8⟩ := h
    exact ⟨bs, v, h1, h2, h3, h4.moved hvm, ⟨h5.moved hvm, h6.moved hvm⟩, h7.moved hvm, h8⟩
  · exact absurd h id
theorem y_sp.warm {lo : Nat} {s U : State} {A : Hp} {H : Heap} (hW : s.WarmedH U.vm) (h : y_sp lo s A H) : y_sp lo U A H :=
  ⟨fun a e ha he => (h.1 a e ha he).moved hW.alike, fun j o i cs hj => (h.2.1 j o i cs hj).warm hW, h.2.2.1.moved hW.alike, h.2.2.2.moved hW.alike⟩
/-- what a callee hands back -/
def y_sq (lo : Nat) (U : State) (A : Hp) (H : Heap) : Prop :=
  (∀ (a : Nat) (e : CE), a < lo → A.1 a = some e → y_spc lo U a e H) ∧
  vx_Zq Bundle.tN "UNASSIGNED_STACK" Bundle.steD (fun q => lo ≤ q) U H ∧ vx_Zq Bundle.tN "SUPPRESSED_SENTINEL" Bundle.listD (fun q => lo ≤ q) U H
theorem y_sp.q {lo : Nat} {U : State} {A : Hp} {H : Heap} (h : y_sp lo U A H) : y_sq lo U A H := ⟨h.1, h.2.2.1, h.2.2.2⟩
theorem y_sq.moved {lo : Nat} {u U : State} {A : Hp} {H : Heap} (hvm : u.vm.Alike U.vm) (h : y_sq lo u A H) : y_sq lo U A H :=
  ⟨fun a e ha he => (h.1 a e ha he).moved hvm, h.2.1.moved hvm, h.2.2.moved hvm⟩
/-- back at the caller's -/
theorem y_sp.back {lo : Nat} {s t : State} {A B : Hp} {H H1 : Heap} (h : y_sp lo s A H) (g : y_sq lo t B H1) (hvm : t.vm.Alike s.vm) (hr : B.2.2.2 = A.2.2.2) : y_sp lo s B H1 :=
  ⟨fun a e ha he => (g.1 a e ha he).moved hvm, fun j o i cs hj => by rw [hr]; exact h.2.1 j o i cs hj, g.2.1.moved hvm, g.2.2.moved hvm⟩
def y_rm (d mc ms : Nat) : Room := { frames := d + 9, cells := mc, slots := ms, locals := 64 * d + 300 }
def y_In (D : va_G) (dA : Nat → ClassId) (lo : Nat) (as : List Value) (A : Hp) : Array Value → State → Prop := fun a U => a = as.toArray ∧ y_O D dA lo A U.heap ∧ y_sp lo U A U.heap ∧ va_K D vwCl (y_tys dA) U ∧ y_N U
def y_Out (D : va_G) (dA : Nat → ClassId) (lo : Nat) (B : Hp) (st t : State) : Prop := y_O D dA lo B t.heap ∧ y_sq lo t B t.heap ∧ st.heap.size ≤ t.heap.size ∧ ∀ q : Nat, q < st.heap.size → q < lo → t.heap[q]? = st.heap[q]?
def y_Q (D : va_G) (dA : Nat → ClassId) (lo : Nat) (o : XO) (B : Hp) : Array Value → State → Outcome → State → Prop := fun _ st oc t => (∃ v, o = .inl v ∧ oc = .returned v) ∧ y_Out D dA lo B st t
def y_X (D : va_G) (dA : Nat → ClassId) (lo : Nat) (o : XO) (B : Hp) : String → State → State → Prop := fun E st t => (∃ k, o = .inr k ∧ E = y_exn k) ∧ y_Out D dA lo B st t
def y_isL (m : Nat) : Bool := decide (240 ≤ m) && decide (m < 269)
def y_cw (m : Nat) : Cond := if y_isL m then .codeWith (y_nm m) (y_by m) (t_maxl m) (y_rt m) (y_hh m) else .code (y_nm m) (y_by m) (t_maxl m) (y_rt m)
def y_ws (m : Nat) : List Cond := y_cw m :: lw_tbl.filter goodWord
theorem y_In.blind {D : va_G} {dA : Nat → ClassId} {lo : Nat} {as : List Value} {A : Hp} : FrameBlind (y_In D dA lo as A) := by
  intro a U g mk h
  obtain ⟨h1, h2, h3, h4, h5⟩ := h
  exact ⟨h1, h2, h3.warm (U := U.calling g mk a) (State.WarmedH.refl U), va_K.moved (u := U) (U := U.calling g mk a) (Vm.Alike.refl U.vm) h4, y_N.same (s := U) (U := U.calling g mk a) rfl h5⟩
/-- the plain machine's run, from a frame of the machine on -/
def y_P (l : Launch) (D : va_G) (dA : Nat → ClassId) (lo : Nat) (f : Nat) : Prop := ∀ (d mm pc : Nat) (L : Lc) (st : List Value) (A : Hp) (o : XO) (A' : Hp), x_run f d mm pc L st A = some (o, A') →
  ∀ (p : Program) (e : Env) (R : Room) (s : State) (m : MethodId) (args : Array Value) (below : List Frame) (meth : Method) (c : Code) (H : Heap) (locs : List Loc) (cells slots : Nat) (Q : State → Prop) (ls : Array Slot),
  y_C p s m args meth c mm → y_N s → y_V D dA lo s s.heap A H locs → y_L L ls → L.length = t_maxl mm → d + 9 ≤ R.frames → 64 * d + 300 ≤ R.locals → cells + (A'.2.1 - A.2.1) ≤ R.cells → slots + (A'.2.2.1 - A.2.2.1) ≤ R.slots →
  (∀ (pc : Nat) (i : Instr) (ls : Array Slot) (st : List Value) (H1 : Heap) (locs1 : List Loc) (c1 n1 : Nat) (v : Option Value), decode (y_by mm) pc = .ok (i, x_len i) → x_fin mm i st = some v → o = .inl v → y_V D dA lo s s.heap A' H1 locs1 → c1 ≤ cells + (A'.2.1 - A.2.1) → n1 ≤ slots + (A'.2.2.1 - A.2.2.1) → W p l e R s m args below meth c H1 locs1 c1 n1 Q (F0 m pc ls st)) →
  (∀ (pc : Nat) (i : Instr) (L : Lc) (ls : Array Slot) (st : List Value) (B : Hp) (H1 : Heap) (locs1 : List Loc) (c1 n1 k : Nat), t_ins mm pc = some i → x_thr mm i L st B = some (k, A') → o = .inr k → y_L L ls → y_V D dA lo s s.heap B H1 locs1 → c1 + (A'.2.1 - B.2.1) ≤ cells + (A'.2.1 - A.2.1) → n1 + (A'.2.2.1 - B.2.2.1) ≤ slots + (A'.2.2.1 - A.2.2.1) → W p l e R s m args below meth c H1 locs1 c1 n1 Q (F0 m pc ls st)) →
  (∀ (pc : Nat) (ls : Array Slot) (rest : List Value) (H1 : Heap) (locs1 : List Loc) (c1 n1 k q : Nat) (ce : Cell), (t_han mm).isEmpty = true → o = .inr k → y_V D dA lo s s.heap A' H1 locs1 → c1 ≤ cells + (A'.2.1 - A.2.1) → n1 ≤ slots + (A'.2.2.1 - A.2.2.1) → H1[q]? = some ce → ce.vm = .none → s.vm.findClass (y_exn k) = some ce.cls → vx_W p l e R s m args below meth c H1 locs1 c1 n1 Q (F0 m pc ls rest) q) →
  (∀ (pc k h : Nat) (ls : Array Slot) (rest : List Value) (H1 : Heap) (locs1 : List Loc) (c1 n1 q : Nat) (ce : Cell), x_hnd mm pc k = some h → H1[q]? = some ce → ce.vm = .none → s.vm.findClass (y_exn k) = some ce.cls → W p l e R s m args below meth c H1 locs1 c1 n1 Q (F0 m h ls [.ref q]) → vx_W p l e R s m args below meth c H1 locs1 c1 n1 Q (F0 m pc ls rest) q) →
  W p l e R s m args below meth c H locs cells slots Q (F0 m pc ls st)
/-- a callee's contract -/
def y_M (l : Launch) (D : va_G) (dA : Nat → ClassId) (lo : Nat) (f : Nat) : Prop := ∀ (d m' : Nat) (as : List Value) (A B : Hp) (o : XO), m' < 273 → m' ≠ 268 → (x_arg as).length ≤ t_maxl m' → x_run f d m' 0 (x_entry m' as) [] A = some (o, B) →
  vx_Met l (y_nm m') (y_ws m') (y_rm d (B.2.1 - A.2.1) (B.2.2.1 - A.2.2.1)) (y_In D dA lo as A) (y_Q D dA lo o B) (y_X D dA lo o B) (B.2.1 - A.2.1) (B.2.2.1 - A.2.2.1) (fun q => lo ≤ q)
theorem x_pop_i : ∀ (n : Nat) (st as r : List Value), x_pop n st = some (as, r) → as.length = n ∧ st = as.reverse ++ r
  | 0, st, as, r, h => by cases h; exact ⟨rfl, rfl⟩
  | n + 1, [], as, r, h => by cases h
  | n + 1, v :: st, as, r, h => by
    obtain ⟨⟨a, b⟩, h1, h2⟩ := x_map_i (show (x_pop n st).map (fun z => (z.1 ++ [v], z.2)) = some (as, r) from h)
    cases h2
    obtain ⟨g1, g2⟩ := x_pop_i n st a b h1
    exact ⟨by simp [g1], by rw [g2]; simp⟩
theorem y_good_in {m : Nat} (hc : y_cdok m) (hm : y_isL m = true → (240 ≤ m ∧ m < 269)) : y_cw m ∈ lw_tbl ∧ goodWord (y_cw m) = true := by
  unfold y_cw
  rcases hc with ⟨h1, h2⟩ | ⟨h1, h2⟩
  · have : y_isL m = false := by
      unfold y_isL
      rcases h1 with h1 | h1
      · simp; omega
      · simp; omega
    rw [this]
    exact ⟨h2, rfl⟩
  · have : y_isL m = true := by
      unfold y_isL
      simp [h1.1, h1.2]
    rw [this]
    exact ⟨h2, rfl⟩

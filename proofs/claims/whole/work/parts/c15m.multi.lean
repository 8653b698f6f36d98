def y_link (T : State) (h0 i a : Nat) : State := match T.heap[h0]? with
  | some ce => T.setCell h0 (ce.setSlot i (.ref a))
  | none => T
def y_fill (f : State → State) (h0 : Nat) : Nat → State → State
  | 0, T => T
  | i + 1, T => y_link (f (y_fill f h0 i T)) h0 i (y_fill f h0 i T).heap.size
def y_mk : List (ClassId × Nat × Value) → State → State
  | [], T => T
  | [z], T => T.pushCell { cls := z.1, slots := Array.replicate z.2.1 z.2.2, vm := .none }
  | z :: q :: r, T => y_fill (y_mk (q :: r)) T.heap.size z.2.1 (T.pushCell { cls := z.1, slots := Array.replicate z.2.1 .null, vm := .none })
section Y98
variable {E : CtlPost} {e : Env} {d : Bool} {acts : List Action} {s : State}
theorem y_newArray {c comp : ClassId} {k : Class} {type : FieldType} {len : Nat} {init : Value} (hk : s.vm.classes[c]? = some k) (hkind : k.kind = .array comp type)
    (hlimit : ¬ len > e.platform.arrayLengthLimit) (hheap : ¬ len * componentBytes type > e.platform.maxHeapBytes) (hfit : fits type init = true) (hdef : init.isDefault = true) {Q : Addr → Pre}
    (h1 : s.heap.size < e.platform.maxCells) (h2 : s.slotsUsed + len ≤ e.platform.maxSlots)
    (hq : ∀ d' acts', Q s.heap.size d' acts' (s.pushCell { cls := c, slots := Array.replicate len init, vm := .none })) :
    wp (Jvm.newArray c len init) Q E e d acts s := by
  have hfits : ∀ i v, (Array.replicate len init)[i]? = some v → s.fitsSlot c .none i v = true := by
    intro i v hv
    simp only [Array.getElem?_replicate] at hv
    split at hv
    · cases hv; simp [State.fitsSlot, State.slotType?, hk, hkind, hfit]
    · cases hv
  simp only [Jvm.newArray, Jvm.arrayFits, wp_bind', W.ask, W.ite, hlimit, if_false, wp_pure', W.theClass, hk, hkind, hheap, W.alloc, W.stop, Option.some.injEq, exists_eq_left', Array.size_replicate]
  rw [if_neg (by omega)]
  exact ⟨h1, h2, hfits, hq _ _⟩
end Y98
theorem y_link_f {T : State} {h0 i a : Nat} {ce : Cell} (h : T.heap[h0]? = some ce) : (y_link T h0 i a).heap.size = T.heap.size ∧ (y_link T h0 i a).vm = T.vm ∧ (y_link T h0 i a).slotsUsed = T.slotsUsed ∧ (∀ b, b ≠ h0 → (y_link T h0 i a).heap[b]? = T.heap[b]?) ∧ (y_link T h0 i a).heap[h0]? = some (ce.setSlot i (.ref a)) := by
  unfold y_link
  rw [h]
  refine ⟨by simp [State.setCell], rfl, rfl, fun b hb => State.heap_setCell_other (Ne.symm hb), State.heap_setCell_self h⟩
def y_Inc (f : State → State) (k u : Nat) : Prop := ∀ T : State, (f T).heap.size = T.heap.size + k ∧ (f T).vm = T.vm ∧ (f T).slotsUsed = T.slotsUsed + u ∧ ∀ a, a < T.heap.size → (f T).heap[a]? = T.heap[a]?
def y_outer (ce : Cell) (h0 k : Nat) : Nat → Cell
  | 0 => ce
  | i + 1 => (y_outer ce h0 k i).setSlot i (.ref (h0 + i * k))
theorem y_fill_f {f : State → State} {k u : Nat} (hf : y_Inc f k u) {h0 : Nat} {T : State} {ce : Cell} (h : T.heap[h0]? = some ce) : ∀ i, (y_fill f h0 i T).heap.size = T.heap.size + i * k ∧ (y_fill f h0 i T).vm = T.vm ∧ (y_fill f h0 i T).slotsUsed = T.slotsUsed + i * u ∧ (∀ a, a < T.heap.size → a ≠ h0 → (y_fill f h0 i T).heap[a]? = T.heap[a]?) ∧ (y_fill f h0 i T).heap[h0]? = some (y_outer ce T.heap.size k i)
  | 0 => ⟨by simp [y_fill], rfl, by simp [y_fill], fun _ _ _ => rfl, h⟩
  | i + 1 => by
    obtain ⟨a1, a2, a3, a4, a5⟩ := y_fill_f hf h i
    obtain ⟨b1, b2, b3, b4⟩ := hf (y_fill f h0 i T)
    have hlt0 : h0 < T.heap.size := (Array.getElem?_eq_some_iff.mp h).1
    have hlt : h0 < (y_fill f h0 i T).heap.size := by omega
    obtain ⟨c1, c2, c3, c4, c5⟩ := y_link_f (T := f (y_fill f h0 i T)) (i := i) (a := (y_fill f h0 i T).heap.size) ((b4 h0 hlt).trans a5)
    refine ⟨?_, ?_, ?_, fun a ha hne => ?_, ?_⟩
    · show (y_link _ _ _ _).heap.size = _
      rw [c1, b1, a1, Nat.succ_mul]; omega
    · show (y_link _ _ _ _).vm = _
      rw [c2, b2, a2]
    · show (y_link _ _ _ _).slotsUsed = _
      rw [c3, b3, a3, Nat.succ_mul]; omega
    · show (y_link _ _ _ _).heap[a]? = _
      rw [c4 a hne, b4 a (by omega), a4 a ha hne]
    · show (y_link _ _ _ _).heap[h0]? = _
      rw [c5, a1]
      rfl
def y_mzc : List (ClassId × Nat × Value) → Nat
  | [] => 0
  | [_] => 1
  | z :: q :: r => 1 + z.2.1 * y_mzc (q :: r)
def y_mzu : List (ClassId × Nat × Value) → Nat
  | [] => 0
  | [z] => z.2.1
  | z :: q :: r => z.2.1 + z.2.1 * y_mzu (q :: r)
theorem y_mk_f : ∀ zs : List (ClassId × Nat × Value), y_Inc (y_mk zs) (y_mzc zs) (y_mzu zs)
  | [], T => ⟨rfl, rfl, rfl, fun _ _ => rfl⟩
  | [z], T => ⟨by simp [y_mk, y_mzc], rfl, by simp [y_mk, y_mzu], fun a ha => State.heap_pushCell_of_lt _ _ ha⟩
  | z :: q :: r, T => by
    obtain ⟨a1, a2, a3, a4, -⟩ := y_fill_f (y_mk_f (q :: r)) (h0 := T.heap.size) (T := T.pushCell { cls := z.1, slots := Array.replicate z.2.1 .null, vm := .none }) (State.heap_pushCell_size _ _) z.2.1
    have hs : (T.pushCell { cls := z.1, slots := Array.replicate z.2.1 .null, vm := .none }).heap.size = T.heap.size + 1 := by simp
    refine ⟨?_, ?_, ?_, fun a ha => ?_⟩
    · show (y_fill _ _ _ _).heap.size = _
      rw [a1, hs]; simp only [y_mzc]; omega
    · show (y_fill _ _ _ _).vm = _
      rw [a2]; rfl
    · show (y_fill _ _ _ _).slotsUsed = _
      rw [a3]; simp [y_mzu]; omega
    · show (y_fill _ _ _ _).heap[a]? = _
      rw [a4 a (by omega) (by omega), State.heap_pushCell_of_lt (h := ha)]
/-- the classes of an array of arrays, outermost first -/
def y_mok (s : State) (e : Env) : List (ClassId × Nat × Value) → Prop
  | [] => False
  | [z] => ∃ (k : Class) (comp : ClassId) (ty : FieldType), s.vm.classes[z.1]? = some k ∧ k.kind = .array comp ty ∧ z.2.2 = defaultValue ty ∧ fits ty z.2.2 = true ∧ z.2.2.isDefault = true ∧ z.2.1 ≤ e.platform.arrayLengthLimit ∧ z.2.1 * componentBytes ty ≤ e.platform.maxHeapBytes
  | z :: q :: r => (∃ (k : Class) (ty : FieldType), s.vm.classes[z.1]? = some k ∧ k.kind = .array q.1 ty ∧ ty.isReference = true ∧ z.2.1 ≤ e.platform.arrayLengthLimit ∧ z.2.1 * componentBytes ty ≤ e.platform.maxHeapBytes) ∧ y_mok s e (q :: r)
theorem y_mok_vm {s t : State} {e : Env} (hv : t.vm = s.vm) : ∀ zs, y_mok s e zs → y_mok t e zs
  | [], h => h
  | [z], h => by unfold y_mok at h ⊢; rw [hv]; exact h
  | z :: q :: r, h => by
    refine ⟨?_, y_mok_vm hv (q :: r) h.2⟩
    rw [hv]
    exact h.1
theorem y_refFits {t : FieldType} (h : t.isReference = true) (v : Value) (hv : v = .null ∨ ∃ a, v = .ref a) : fits t v = true := by
  rcases hv with rfl | ⟨a, rfl⟩ <;> cases t <;> simp [FieldType.isReference] at h <;> rfl
theorem y_outer_f (ce : Cell) (h0 k : Nat) : ∀ i, (y_outer ce h0 k i).cls = ce.cls ∧ (y_outer ce h0 k i).vm = ce.vm ∧ (y_outer ce h0 k i).slots.size = ce.slots.size
  | 0 => ⟨rfl, rfl, rfl⟩
  | i + 1 => by
    obtain ⟨a, b, d⟩ := y_outer_f ce h0 k i
    exact ⟨by simp [y_outer, Cell.setSlot, a], by simp [y_outer, Cell.setSlot, b], by simp [y_outer, Cell.setSlot, d]⟩
theorem y_make_wp {E : CtlPost} {e : Env} : ∀ (zs : List (ClassId × Nat × Value)) (cs : List Int32) (c : ClassId), zs.head?.map (fun z => z.1) = some c → cs.map (fun n => n.toNatClampNeg) = zs.map (fun z => z.2.1) → (∀ n ∈ cs, ¬ n < 0) → ∀ (s : State) (d : Bool) (acts : List Action) (Q : Addr → Pre), y_mok s e zs → s.heap.size + y_mzc zs ≤ e.platform.maxCells → s.slotsUsed + y_mzu zs ≤ e.platform.maxSlots → (∀ d' acts', Q s.heap.size d' acts' (y_mk zs s)) → wp (Jvm.Op.multianewarray.make c cs) Q E e d acts s
  | [], _, _, hc, _, _, _, _, _, _, _, _, _, _ => nomatch hc
  | [z], [m], c, hc, hm, hneg, s, d, acts, Q, hok, h1, h2, hq => by
    cases hc
    obtain ⟨k, comp, ty, hk, hkind, hv, hf, hd, hl, hh⟩ := hok
    have hm1 : m.toNatClampNeg = z.2.1 := (List.cons.inj hm).1
    rw [Jvm.Op.multianewarray.make]
    simp only [wp_bind', W.ite, hneg m (by simp), if_false, wp_pure', W.theClass, hk, hkind, Option.some.injEq, exists_eq_left']
    rw [hm1, ← hv]
    exact y_newArray hk hkind (by omega) (by omega) hf hd (by simp only [y_mzc] at h1; omega) (by simp only [y_mzu] at h2; omega) hq
  | [z], [], _, _, hm, _, _, _, _, _, _, _, _, _ => by simp at hm
  | [z], _ :: _ :: _, _, _, hm, _, _, _, _, _, _, _, _, _ => by simp at hm
  | z :: q :: r, [], _, _, hm, _, _, _, _, _, _, _, _, _ => by simp at hm
  | z :: q :: r, [_], _, _, hm, _, _, _, _, _, _, _, _, _ => by simp at hm
  | z :: q :: r, n :: n' :: cs, c, hc, hm, hneg, s, d, acts, Q, hok, h1, h2, hq => by
    cases hc
    obtain ⟨⟨k, ty, hk, hkind, href, hl, hh⟩, hok2⟩ := hok
    have hm1 : n.toNatClampNeg = z.2.1 := (List.cons.inj hm).1
    have hm2 := (List.cons.inj hm).2
    have hneg2 : ∀ m ∈ n' :: cs, ¬ m < 0 := fun m h => hneg m (List.mem_cons_of_mem _ h)
    have hfind : ((n' :: cs).find? (· < 0)) = none := List.find?_eq_none.mpr fun m h => by simpa using hneg2 m h
    have hn0 : ¬ n < 0 := hneg n (by simp)
    rw [Jvm.Op.multianewarray.make]
    simp only [wp_bind', W.ite, hn0, if_false, wp_pure', W.theClass, hk, hkind, Option.some.injEq, exists_eq_left']
    rw [hm1]
    simp only [y_mzc] at h1
    simp only [y_mzu] at h2
    refine y_newArray hk hkind (by omega) (by omega) (y_refFits href _ (Or.inl rfl)) rfl (by omega) (by omega) fun d' acts' => ?_
    simp only [hfind]
    rw [ite_self, wp_bind', Std.Legacy.Range.forIn_eq_forIn_range']
    have hsz : ([:z.2.1] : Std.Legacy.Range).size = z.2.1 := by simp [Std.Legacy.Range.size]
    rw [hsz]
    show wp (forIn (List.range' 0 z.2.1 1) PUnit.unit _) _ E e d' acts' _
    generalize hT : s.pushCell { cls := z.1, slots := Array.replicate z.2.1 .null, vm := .none } = T
    have hT0 : T.heap[s.heap.size]? = some { cls := z.1, slots := Array.replicate z.2.1 .null, vm := .none } := by rw [← hT]; exact State.heap_pushCell_size _ _
    have hTs : T.heap.size = s.heap.size + 1 := by rw [← hT]; simp
    have hTu : T.slotsUsed = s.slotsUsed + z.2.1 := by rw [← hT]; simp
    have hTv : T.vm = s.vm := by rw [← hT]; rfl
    refine wp_forIn_inv (fun rest s' => ∃ i, i ≤ z.2.1 ∧ rest = List.range' i (z.2.1 - i) ∧ s' = y_fill (y_mk (q :: r)) s.heap.size i T) _ _ ⟨0, Nat.zero_le _, rfl, rfl⟩ ?_ ?_
    · rintro x rest s' d' acts' Q' ⟨i, hi, hl, rfl⟩ hnext
      have hlt : i < z.2.1 := by
        rcases Nat.lt_or_ge i z.2.1 with h | h
        · exact h
        · rw [show z.2.1 - i = 0 from by omega] at hl; simp at hl
      obtain ⟨rfl, hrest⟩ : x = i ∧ rest = List.range' (i + 1) (z.2.1 - (i + 1)) := by
        rw [show z.2.1 - i = (z.2.1 - (i + 1)) + 1 from by omega, List.range'_succ] at hl
        exact ⟨(List.cons.inj hl).1, (List.cons.inj hl).2⟩
      obtain ⟨a1, a2, a3, a4, a5⟩ := y_fill_f (y_mk_f (q :: r)) hT0 x
      obtain ⟨b1, b2, b3, b4⟩ := y_mk_f (q :: r) (y_fill (y_mk (q :: r)) s.heap.size x T)
      have hmul : x * y_mzc (q :: r) + y_mzc (q :: r) ≤ z.2.1 * y_mzc (q :: r) := by
        have := Nat.mul_le_mul_right (y_mzc (q :: r)) (show x + 1 ≤ z.2.1 from hlt)
        rw [Nat.succ_mul] at this; exact this
      have hmul2 : x * y_mzu (q :: r) + y_mzu (q :: r) ≤ z.2.1 * y_mzu (q :: r) := by
        have := Nat.mul_le_mul_right (y_mzu (q :: r)) (show x + 1 ≤ z.2.1 from hlt)
        rw [Nat.succ_mul] at this; exact this
      simp only [wp_bind']
      refine y_make_wp (q :: r) (n' :: cs) q.1 rfl hm2 hneg2 _ _ _ _ (y_mok_vm (a2.trans hTv) _ hok2) (by rw [a1, hTs]; omega) (by rw [a3, hTu]; omega) fun d1 acts1 => ?_
      have hlt0 : s.heap.size < (y_fill (y_mk (q :: r)) s.heap.size x T).heap.size := by rw [a1, hTs]; omega
      have hcell := (b4 _ hlt0).trans a5
      obtain ⟨o1, o2, o3⟩ := y_outer_f { cls := z.1, slots := Array.replicate z.2.1 .null, vm := .none } T.heap.size (y_mzc (q :: r)) x
      simp only [wp_bind', W.writeLoc, wp_pure']
      refine ⟨_, hcell, by rw [o2]; simp, by rw [o3]; simpa using hlt, ?_, hnext _ _ _ ⟨x + 1, hlt, hrest, ?_⟩⟩
      · rw [o1, o2]
        have hk2 : (y_mk (q :: r) (y_fill (y_mk (q :: r)) s.heap.size x T)).vm.classes[z.1]? = some k := by rw [b2, a2, hTv]; exact hk
        simp [State.fitsSlot, State.slotType?, hk2, hkind, y_refFits href _ (Or.inr ⟨_, rfl⟩)]
      · show _ = y_link _ _ _ _
        unfold y_link
        rw [hcell]
    · rintro s' d' acts' ⟨i, hi, hl, rfl⟩
      have hiN : i = z.2.1 := by
        rcases Nat.lt_or_ge i z.2.1 with h | h
        · rw [show z.2.1 - i = (z.2.1 - (i + 1)) + 1 from by omega, List.range'_succ] at hl; cases hl
        · omega
      subst hiN
      simp only [wp_pure']
      have := hq d' acts'
      unfold y_mk at this
      rw [hT] at this
      exact this
section Y98S
variable {p : Program} {l : Launch} {e : Env} {R : Room} {s : State} {m : MethodId} {args : Array Value} {below : List Frame} {meth : Method} {c : Code} {locs : List Loc}
def y_keeps (p : Program) (l : Launch) (e : Env) (R : Room) (s : State) (m : MethodId) (args : Array Value) (below : List Frame) (meth : Method) (c : Code) (locs : List Loc) (f : State → State) (k u : Nat) : Prop := ∀ (T : State) (cells slots : Nat), s.heap.size ≤ T.heap.size → Stand p l e R s m args below meth c T locs cells slots → Stand p l e R s m args below meth c (f T) locs (cells + k) (slots + u)
theorem y_fill_S {f : State → State} {k u : Nat} (hi : y_Inc f k u) (hf : y_keeps p l e R s m args below meth c locs f k u) {h0 : Nat} {T : State} {ce : Cell} {cells slots : Nat} (h : T.heap[h0]? = some ce) (h0s : s.heap.size ≤ h0) (X : Stand p l e R s m args below meth c T locs cells slots) : ∀ i, Stand p l e R s m args below meth c (y_fill f h0 i T) locs (cells + i * k) (slots + i * u)
  | 0 => by rw [Nat.zero_mul, Nat.zero_mul]; exact X
  | i + 1 => by
    have Xi := y_fill_S hi hf h h0s X i
    obtain ⟨a1, a2, a3, a4, a5⟩ := y_fill_f hi h i
    obtain ⟨b1, b2, b3, b4⟩ := hi (y_fill f h0 i T)
    have hlt0 : h0 < T.heap.size := (Array.getElem?_eq_some_iff.mp h).1
    have hlt : h0 < (y_fill f h0 i T).heap.size := by omega
    have X1 := hf _ _ _ (by omega) Xi
    have h9 := (b4 h0 hlt).trans a5
    have X2 := X1.stored h9 i (.ref (y_fill f h0 i T).heap.size)
    have X3 := X2.forget (extra := [⟨h0, i⟩]) (fun y hy => by
      rw [List.mem_singleton.mp hy]
      exact h0s)
    rw [Nat.succ_mul, Nat.succ_mul, ← Nat.add_assoc, ← Nat.add_assoc]
    show Stand p l e R s m args below meth c (y_link _ _ _ _) locs _ _
    unfold y_link
    rw [h9]
    exact X3
theorem y_mk_S : ∀ zs : List (ClassId × Nat × Value), y_keeps p l e R s m args below meth c locs (y_mk zs) (y_mzc zs) (y_mzu zs)
  | [], T, cells, slots, _, X => X
  | [z], T, cells, slots, _, X => by
    have := X.pushed { cls := z.1, slots := Array.replicate z.2.1 z.2.2, vm := .none }
    simpa [y_mk, y_mzc, y_mzu] using this
  | z :: q :: r, T, cells, slots, hT, X => by
    have X1 := X.pushed { cls := z.1, slots := Array.replicate z.2.1 .null, vm := .none }
    have X2 := y_fill_S (y_mk_f (q :: r)) (y_mk_S (q :: r)) (State.heap_pushCell_size _ _) hT X1 z.2.1
    have e1 : cells + y_mzc (z :: q :: r) = cells + 1 + z.2.1 * y_mzc (q :: r) := by simp only [y_mzc]; omega
    have e2 : slots + y_mzu (z :: q :: r) = slots + (Array.replicate z.2.1 Value.null).size + z.2.1 * y_mzu (q :: r) := by simp only [y_mzu, Array.size_replicate]; omega
    rw [e1, e2]
    exact X2
end Y98S

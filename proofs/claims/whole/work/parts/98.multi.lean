def y_link (T : State) (h0 i a : Nat) : State := match T.heap[h0]? with
  | some ce => T.setCell h0 (ce.setSlot i (.ref a))
  | none => T
def y_fill (f : State → State) (h0 : Nat) : Nat → State → State
  | 0, T => T
  | i + 1, T => y_link (f (y_fill f h0 i T)) h0 i (y_fill f h0 i T).heap.size
def y_mk : List (ClassId × Nat × Value) → State → State
  | [], T => T
  | [z], T => T.pushCell { cls := z.1, slots := Array.replicate z.2.1 z.2.2, vm := .none }
  | z :: q :: r, T => y_fill (y_mk (q :: r)) T.heap.size z.2.1 (T.pushCell { cls := z.1, slots := Array.replicate z.2.1 .null, vm := .none })
section Y98
variable {E : CtlPost} {e : Env} {d : Bool} {acts : List Action} {s : State}
theorem y_newArray {c comp : ClassId} {k : Class} {type : FieldType} {len : Nat} {init : Value} (hk : s.vm.classes[c]? = some k) (hkind : k.kind = .array comp type)
    (hlimit : ¬ len > e.platform.arrayLengthLimit) (hheap : ¬ len * componentBytes type > e.platform.maxHeapBytes) (hfit : fits type init = true) (hdef : init.isDefault = true) {Q : Addr → Pre}
    (h1 : s.heap.size < e.platform.maxCells) (h2 : s.slotsUsed + len ≤ e.platform.maxSlots)
    (hq : ∀ d' acts', Q s.heap.size d' acts' (s.pushCell { cls := c, slots := Array.replicate len init, vm := .none })) :
    wp (Jvm.newArray c len init) Q E e d acts s := by
  have hfits : ∀ i v, (Array.replicate len init)[i]? = some v → s.fitsSlot c .none i v = true := by
    intro i v hv
    simp only [Array.getElem?_replicate] at hv
    split at hv
    · cases hv; simp [State.fitsSlot, State.slotType?, hk, hkind, hfit]
    · cases hv
  simp only [Jvm.newArray, Jvm.arrayFits, wp_bind', W.ask, W.ite, hlimit, if_false, wp_pure', W.theClass, hk, hkind, hheap, W.alloc, W.stop, Option.some.injEq, exists_eq_left', Array.size_replicate]
  rw [if_neg (by omega)]
  exact ⟨h1, h2, hfits, hq _ _⟩
end Y98

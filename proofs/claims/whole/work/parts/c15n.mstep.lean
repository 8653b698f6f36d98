section Y98T
variable {p : Program} {l : Launch} {e : Env} {R : Room} {s : State} {m : MethodId} {args : Array Value} {below : List Frame} {meth : Method} {c : Code} {locs : List Loc} {cells slots : Nat} {T : State}
theorem y_fill_setTop {f : State → State} (hf : ∀ (T : State) (g : JFrame), f (T.setTop g) = (f T).setTop g) (h0 : Nat) (T : State) (g : JFrame) : ∀ i, y_fill f h0 i (T.setTop g) = (y_fill f h0 i T).setTop g
  | 0 => rfl
  | i + 1 => by
    show y_link _ _ _ _ = (y_link _ _ _ _).setTop g
    rw [y_fill_setTop hf h0 T g i, hf]
    unfold y_link
    simp only [State.heap_setTop]
    split
    · rw [State.setCell_setTop]
    · rfl
theorem y_mk_setTop : ∀ (zs : List (ClassId × Nat × Value)) (T : State) (g : JFrame), y_mk zs (T.setTop g) = (y_mk zs T).setTop g
  | [], _, _ => rfl
  | [z], T, g => by simp only [y_mk, State.pushCell_setTop]
  | z :: q :: r, T, g => by
    show y_fill _ _ _ _ = (y_fill _ _ _ _).setTop g
    rw [State.heap_setTop, State.pushCell_setTop, y_fill_setTop (y_mk_setTop (q :: r))]
theorem y_mstep (X : Stand p l e R s m args below meth c T locs cells slots) (hexec : p.tables.exec = Jvm.exec) {own nm : String} {index d : Nat} (hown : s.vm.findClass own = some m.cls) (hclink : (Cond.classLink own index nm).before args s = true)
    {cs : List Int32} {rest : List Value} {zs : List (ClassId × Nat × Value)} {cA : ClassId} (hd : d = 2 ∧ (∃ a b, cs = [a, b]) ∨ d = 3 ∧ (∃ a b z, cs = [a, b, z]) ∨ d = 4 ∧ ∃ a b z y, cs = [a, b, z, y])
    {g : JFrame} (hg : g.method = m) (hdg : decode c.code g.pc = .ok (.multianewarray index d, 4)) (hstack : g.stack = (cs.map Value.int).reverse ++ rest)
    (hz0 : zs.head?.map (fun z => z.1) = some cA) (hfc : s.vm.findClass nm = some cA) (hzs : cs.map (fun n => n.toNatClampNeg) = zs.map (fun z => z.2.1)) (hneg : ∀ n ∈ cs, ¬ n < 0) (hok : ∀ U : State, s.vm.Alike U.vm → y_mok U e zs) (hT : s.heap.size ≤ T.heap.size) (hcells : cells + y_mzc zs ≤ R.cells) (hslots : slots + y_mzu zs ≤ R.slots) :
    ∃ vm₁ : Vm, s.WarmedH vm₁ ∧ Stand p l e R s m args below meth c (y_mk zs (T.setVm vm₁)) locs (cells + y_mzc zs) (slots + y_mzu zs) ∧
      ∀ target, Steps p.tables e below ((y_mk zs (T.setVm vm₁)).setTop { g with pc := g.pc + 4, stack := .ref T.heap.size :: rest }) target → Steps p.tables e below (T.setTop g) target := by
  subst hg
  have hpl : e.platform.magicAccessors = ({} : Platform).magicAccessors := by rw [X.admits.platform]
  obtain ⟨c0, hfc0, hcl⟩ := Cond.classLink_spec hown hclink e.platform hpl
  cases hfc.symm.trans hfc0
  obtain ⟨hg₁, hwarm₁, hready₁⟩ := State.classEntry (e := e) X.warmed hcl
  generalize T.vm.noted g.method.cls index (.cls cA) = vm₁ at hg₁ hwarm₁ hready₁
  have X₁ := X.noted hwarm₁
  obtain ⟨hr1, hr2⟩ := X.roomAbove hcells hslots
  have XF := y_mk_S zs (T.setVm vm₁) cells slots hT X₁
  refine ⟨vm₁, hwarm₁, XF, fun target hrest => ?_⟩
  have hmk : ∀ (d' : Bool) (acts' : List Action) (Q : Addr → Pre) (E : CtlPost) (g' : JFrame), (∀ d' acts', Q T.heap.size d' acts' ((y_mk zs (T.setVm vm₁)).setTop g')) → wp (Jvm.Op.multianewarray.make cA cs) Q E e d' acts' ((T.setVm vm₁).setTop g') := by
    intro d' acts' Q E g' hq
    refine y_make_wp zs cs cA hz0 hzs hneg _ _ _ _ (hok _ hwarm₁.alike) (by show T.heap.size + _ ≤ _; omega) (by show T.slotsUsed + _ ≤ _; omega) fun d1 acts1 => ?_
    rw [y_mk_setTop]
    exact hq _ _
  have eS : ∀ st, ((T.setTop g).setVm vm₁).setTop { g with stack := st } = (T.setVm vm₁).setTop { g with stack := st } := fun st => by
    show ((T.setVm vm₁).setTop g).setTop _ = _
    rw [State.setTop_setTop]
  rcases hd with ⟨rfl, a, b, rfl⟩ | ⟨rfl, a, b, z, rfl⟩ | ⟨rfl, a, b, z, y, rfl⟩
  · jvm_step X.here [hexec, hdg]
    simp only [Jvm.Op.multianewarray.sem, wp_bind', W.resolveClassAt_links (State.method?_setTop g X.here.top) hg₁]
    rw [W.popN, if_neg (by decide)]
    refine ⟨g, State.topJava?_setTop' (s := T.setVm vm₁) g X.here.top, [.int a, .int b], rest, rfl, hstack, ?_⟩
    simp only [List.mapM_cons, List.mapM_nil, wp_bind', wp_pure']
    rw [eS]
    refine hmk _ _ _ _ _ fun d' acts' => ?_
    simp only [wp_bind', W.mark, W.pushRef, State.topJava?_setTop' _ XF.here.top, Option.some.injEq, exists_eq_left', State.setTop_setTop, State.heap_setTop]
    intro acts
    simp [jvm, XF.here.top]
    exact hrest
  · jvm_step X.here [hexec, hdg]
    simp only [Jvm.Op.multianewarray.sem, wp_bind', W.resolveClassAt_links (State.method?_setTop g X.here.top) hg₁]
    rw [W.popN, if_neg (by decide)]
    refine ⟨g, State.topJava?_setTop' (s := T.setVm vm₁) g X.here.top, [.int a, .int b, .int z], rest, rfl, hstack, ?_⟩
    simp only [List.mapM_cons, List.mapM_nil, wp_bind', wp_pure']
    rw [eS]
    refine hmk _ _ _ _ _ fun d' acts' => ?_
    simp only [wp_bind', W.mark, W.pushRef, State.topJava?_setTop' _ XF.here.top, Option.some.injEq, exists_eq_left', State.setTop_setTop, State.heap_setTop]
    intro acts
    simp [jvm, XF.here.top]
    exact hrest
  · jvm_step X.here [hexec, hdg]
    simp only [Jvm.Op.multianewarray.sem, wp_bind', W.resolveClassAt_links (State.method?_setTop g X.here.top) hg₁]
    rw [W.popN, if_neg (by decide)]
    refine ⟨g, State.topJava?_setTop' (s := T.setVm vm₁) g X.here.top, [.int a, .int b, .int z, .int y], rest, rfl, hstack, ?_⟩
    simp only [List.mapM_cons, List.mapM_nil, wp_bind', wp_pure']
    rw [eS]
    refine hmk _ _ _ _ _ fun d' acts' => ?_
    simp only [wp_bind', W.mark, W.pushRef, State.topJava?_setTop' _ XF.here.top, Option.some.injEq, exists_eq_left', State.setTop_setTop, State.heap_setTop]
    intro acts
    simp [jvm, XF.here.top]
    exact hrest
end Y98T

/-! an instruction that touches cells, all cases -/
theorem y_cl0 : Cond.sameMethod "[I" "java/lang/Object" "clone" "()Ljava/lang/Object;" ∈ lw_tbl ∧ Cond.selects "[I" ⟨"[I", "clone", "()Ljava/lang/Object;"⟩ ⟨"java/lang/Object", "clone", "()Ljava/lang/Object;"⟩ ∈ lw_tbl ∧ Cond.castable "[I" "java/lang/Cloneable" ∈ lw_tbl := ⟨y_w 805 (by decide +kernel), y_w 808 (by decide +kernel), y_w 809 (by decide +kernel)⟩
theorem y_cl1 : Cond.sameMethod "[J" "java/lang/Object" "clone" "()Ljava/lang/Object;" ∈ lw_tbl ∧ Cond.selects "[J" ⟨"[J", "clone", "()Ljava/lang/Object;"⟩ ⟨"java/lang/Object", "clone", "()Ljava/lang/Object;"⟩ ∈ lw_tbl ∧ Cond.castable "[J" "java/lang/Cloneable" ∈ lw_tbl := ⟨y_w 817 (by decide +kernel), y_w 818 (by decide +kernel), y_w 819 (by decide +kernel)⟩
theorem y_cln0 : Cond.native ⟨"java/lang/Object", "clone", "()Ljava/lang/Object;"⟩ ∈ lw_tbl ∧ Cond.instanceMethod ⟨"java/lang/Object", "clone", "()Ljava/lang/Object;"⟩ ∈ lw_tbl := ⟨y_w 806 (by decide +kernel), y_w 807 (by decide +kernel)⟩
theorem x_jdk_1 {o k : Nat} {st : List Value} {A : Hp} (h : t_jdk o k = some 1) : x_jdk o k st A = (match st with | .int y :: .int x :: r => some (.int (if y < x then y else x) :: r, A) | _ => none) := by
  unfold x_jdk
  rw [h]
  rfl
theorem x_jdk_2 {o k : Nat} {st : List Value} {A : Hp} (h : t_jdk o k = some 2) : x_jdk o k st A = (match st with | .int y :: .int x :: r => some (.int (if x < y then y else x) :: r, A) | _ => none) := by
  unfold x_jdk
  rw [h]
  rfl
theorem x_jdk_3 {o k : Nat} {st : List Value} {A : Hp} (h : t_jdk o k = some 3) : x_jdk o k st A = (match st with | .long y :: .long x :: r => some (.long (if y < x then y else x) :: r, A) | _ => none) := by
  unfold x_jdk
  rw [h]
  rfl
theorem x_jdk_7 {o k : Nat} {st : List Value} {A : Hp} (h : t_jdk o k = some 7) : x_jdk o k st A = (match st with | .int n :: .int dp :: .ref b :: .int sp :: .ref a :: r => (x_cpI A a b sp dp n).map (fun A' => (r, A')) | _ => none) := by
  unfold x_jdk
  rw [h]
  rfl
theorem x_jdk_8 {o k : Nat} {st : List Value} {A : Hp} (h : t_jdk o k = some 8) : x_jdk o k st A = (match st with | .ref a :: r => (x_str A a).map (fun z => (.int (Int32.ofNat z.1) :: r, A)) | _ => none) := by
  unfold x_jdk
  rw [h]
  rfl
theorem x_jdk_9 {o k : Nat} {st : List Value} {A : Hp} (h : t_jdk o k = some 9) : x_jdk o k st A = (match st with | .int i :: .ref a :: r => (match x_str A a with | some (n, f) => if x_in i n then some (.int (f i.toNatClampNeg) :: r, A) else none | none => none) | _ => none) := by
  unfold x_jdk
  rw [h]
  rfl
theorem x_jdk_10 {o k : Nat} {st : List Value} {A : Hp} (h : t_jdk o k = some 10) : x_jdk o k st A = (match st with | .ref a :: r => if (x_cls A a).isSome then some (r, A) else none | _ => none) := by
  unfold x_jdk
  rw [h]
  rfl
theorem x_jdk_11 {o k : Nat} {st : List Value} {A : Hp} (h : t_jdk o k = some 11) : x_jdk o k st A = (match st with | .ref a :: r => (x_cln k A a).map (fun A' => (.ref A.2.1 :: r, A')) | _ => none) := by
  unfold x_jdk
  rw [h]
  rfl
section YJ
variable {p : Program} {l : Launch} {e : Env} {R : Room} {s : State} {m : MethodId} {args : Array Value} {below : List Frame} {meth : Method} {c : Code} {H : Heap} {locs : List Loc} {cells slots : Nat} {Q : State → Prop}
variable {pc mm : Nat} {ls : Array Slot} {D : va_G} {dA : Nat → ClassId} {lo : Nat} {A : Hp} {rest : List Value}
theorem t_jdk_i {o k z : Nat} (h : t_jdk o k = some z) : y_jdok (o, k, z) := y_jd _ (t_find3 h)
theorem y_cloneT {k a t : Nat} {x : vp_A} {ad : String} {ty : FieldType} (C : y_C p s m args meth c mm) (V : y_V D dA lo s s.heap A H locs) (hml : ls.size = c.maxLocals) (hlk : Cond.methodLink (y_own (t_own mm)) k ⟨ad, "clone", "()Ljava/lang/Object;"⟩ ∈ lw_tbl)
    (hcl : Cond.sameMethod ad "java/lang/Object" "clone" "()Ljava/lang/Object;" ∈ lw_tbl ∧ Cond.selects ad ⟨ad, "clone", "()Ljava/lang/Object;"⟩ ⟨"java/lang/Object", "clone", "()Ljava/lang/Object;"⟩ ∈ lw_tbl ∧ Cond.castable ad "java/lang/Cloneable" ∈ lw_tbl)
    (ha : A.1 a = some (.inl (t, x))) (ht : (y_tys dA)[t]? = some (dA t, ty)) (h11 : t < 11) (hnm : s.vm.findClass ad = some (dA t)) (hfit : ∀ (i : Nat) (v : Value), (vp_cell (dA t) x).slots[i]? = some v → fits ty v = true) (hfb : y_fb (.inl (t, x)))
    (hd : decode (y_by mm) pc = .ok (.invokevirtual k, 3)) (hfr : 1 ≤ R.frames) (hlo : x_words rest + 100 ≤ R.locals) (hc : cells + 1 ≤ R.cells) (hs : slots + x.1 ≤ R.slots)
    (kk : ∀ H1 : Heap, y_V D dA lo s s.heap (h_push A (.inl (t, x)) x.1) H1 locs → W p l e R s m args below meth c H1 locs (cells + 1) (slots + x.1) Q (F0 m (pc + 3) ls (.ref A.2.1 :: rest))) : W p l e R s m args below meth c H locs cells slots Q (F0 m pc ls (.ref a :: rest)) := by
  obtain ⟨hx, hb, -, hown, hts, -⟩ := C
  have hlo' : (rest.map fun v => v.category).sum + 100 ≤ R.locals := hlo
  have hge : lo ≤ a := by
    rcases Nat.lt_or_ge a lo with h | h
    · exact absurd (show y_ord (.inl (t, x)) from h11) (V.2.1.1 a _ h ha).ord
    · exact h
  have hat : H[a]? = some (vp_cell (dA t) x) := (V.1.2.2 a _ hge ha).2.2
  have hK := V.2.2.1
  have hsz : (vp_cell (dA t) x).slots.size = x.1 := by
    obtain ⟨n, f | f | f | f | f⟩ := x <;> exact arrV_size _ _ _
  have hvm0 : (vp_cell (dA t) x).vm = .none := by
    obtain ⟨n, f | f | f | f | f⟩ := x <;> rfl
  have hcl0 : (vp_cell (dA t) x).cls = dA t := by
    obtain ⟨n, f | f | f | f | f⟩ := x <;> rfl
  have hcellE : ({ cls := (vp_cell (dA t) x).cls, slots := (vp_cell (dA t) x).slots } : Cell) = vp_cell (dA t) x := by
    obtain ⟨n, f | f | f | f | f⟩ := x <;> rfl
  obtain ⟨c0, t0', f1, f2, f3⟩ := Cond.castable_spec (hts _ hcl.2.2 rfl)
  cases hnm.symm.trans f1
  intro T hT X
  have hcellT : T.heap[a]? = some (vp_cell (dA t) x) := by rw [hT]; exact hat
  obtain ⟨-, kA, hkA, comp, hkind⟩ := State.isArrayOf_alike X.warmed.alike ((hK.2 t _ ht).1 0 (fun _ => .null))
  obtain ⟨-, kS, hkS, compS, hkindS⟩ := (hK.2 t _ ht).1 0 (fun _ => .null)
  obtain ⟨vm', X', st⟩ := X.cloneArray hx hown (hts _ hlk rfl) (hts _ hcl.1 rfl) (hts _ y_cln0.1 rfl) (hts _ y_cln0.2 rfl) (hts _ hcl.2.1 rfl) (a := a) (cell := vp_cell (dA t) x) hcellT (fun k h => by rw [hvm0] at h; cases h) (by rw [hvm0]; exact fun h => by cases h) (by rw [hcl0]; exact hnm) f2 (by rw [hcl0]; exact f3)
    (fun i v hv => by
      rw [hcl0]
      have hk' : T.vm.classes[dA t]? = some kA := hkA
      simpa [State.fitsSlot, State.slotType?, hk', hkind] using hfit i v hv)
    (g := F0 m pc ls (.ref a :: rest)) rfl hml rfl (by rw [hb]; exact hd) hfr (by show 2 * 0 + _ + 14 ≤ _; omega) hc (by rw [hsz]; exact hs) (hloader := by rw [hcl0]; exact Vm.clonesLoader_of_array hkS hkindS)
  rw [hcellE, hsz] at X'
  generalize hH1 : H.push (vp_cell (dA t) x) = H1
  have z1 : H1.size = H.size + 1 := by rw [← hH1, Array.size_push]
  have e1 : H1[H.size]? = some (vp_cell (dA t) x) := by rw [← hH1, Array.getElem?_push_size]
  have o1 : ∀ q : Nat, q < H.size → H1[q]? = H[q]? := fun q hq => by rw [← hH1, Array.getElem?_push, if_neg (Nat.ne_of_lt hq)]
  have V1 : y_V D dA lo s s.heap (h_push A (.inl (t, x)) x.1) H1 locs := V.push (show y_ord (.inl (t, x)) from h11) hfb e1 z1 o1
  rw [← V.1.1] at kk
  obtain ⟨t9, b1, b2⟩ := kk H1 V1 ((T.setVm vm').pushCell (vp_cell (dA t) x)) (by rw [← hH1, ← hT]; rfl) X'
  refine ⟨t9, st t9 ?_, b2⟩
  rw [hcellE, hT]
  exact b1
theorem y_clone {k a : Nat} {A' : Hp} (C : y_C p s m args meth c mm) (V : y_V D dA lo s s.heap A H locs) (hml : ls.size = c.maxLocals) (hj : t_jdk (t_own mm) k = some 11) (hv : x_cln k A a = some A') (hd : decode (y_by mm) pc = .ok (.invokevirtual k, 3)) (hfr : 1 ≤ R.frames) (hlo : x_words rest + 100 ≤ R.locals) (hc : cells + (A'.2.1 - A.2.1) ≤ R.cells) (hs : slots + (A'.2.2.1 - A.2.2.1) ≤ R.slots)
    (kk : ∀ H1 : Heap, y_V D dA lo s s.heap A' H1 locs → W p l e R s m args below meth c H1 locs (cells + (A'.2.1 - A.2.1)) (slots + (A'.2.2.1 - A.2.2.1)) Q (F0 m (pc + 3) ls (.ref A.2.1 :: rest))) : W p l e R s m args below meth c H locs cells slots Q (F0 m pc ls (.ref a :: rest)) := by
  have hq := t_jdk_i hj
  unfold y_jdok at hq
  rw [if_pos rfl] at hq
  unfold x_cln at hv
  split at hv
  · rename_i n f ha
    split at hv
    · rename_i h316
      cases hv
      rw [if_pos h316] at hq
      rw [show (h_push A (.inl (0, n, .inl f)) n).2.1 - A.2.1 = 1 from Nat.add_sub_cancel_left _ _, show (h_push A (.inl (0, n, .inl f)) n).2.2.1 - A.2.2.1 = n from Nat.add_sub_cancel_left _ _] at *
      exact y_cloneT (x := (n, .inl f)) C V hml hq y_cl0 ha rfl (by decide) (V.2.2.1.2 0 _ rfl).2 (fun i v h => va_fit (F := fun j => .int (f j)) (fun _ _ => rfl) i v h) trivial hd hfr hlo hc hs kk
    · cases hv
  · rename_i n f ha
    split at hv
    · cases hv
    · rename_i h316
      cases hv
      rw [if_neg h316] at hq
      rw [show (h_push A (.inl (1, n, .inr (.inl f))) n).2.1 - A.2.1 = 1 from Nat.add_sub_cancel_left _ _, show (h_push A (.inl (1, n, .inr (.inl f))) n).2.2.1 - A.2.2.1 = n from Nat.add_sub_cancel_left _ _] at *
      exact y_cloneT (x := (n, .inr (.inl f))) C V hml hq y_cl1 ha rfl (by decide) (V.2.2.1.2 1 _ rfl).2 (fun i v h => va_fit (F := fun j => .long (f j)) (fun _ _ => rfl) i v h) trivial hd hfr hlo hc hs kk
  · cases hv
theorem y_slen {k a n : Nat} {f : Nat → Int32} (C : y_C p s m args meth c mm) (V : y_V D dA lo s s.heap A H locs) (hml : ls.size = c.maxLocals) (hj : t_jdk (t_own mm) k = some 8) (hv : x_str A a = some (n, f)) (hd : decode (y_by mm) pc = .ok (.invokevirtual k, 3)) (hfr : 8 ≤ R.frames) (hlo : x_words rest + 100 ≤ R.locals) (hc : cells ≤ R.cells) (hs : slots ≤ R.slots)
    (kk : W p l e R s m args below meth c H locs cells slots Q (F0 m (pc + 3) ls (.int (Int32.ofNat n) :: rest))) : W p l e R s m args below meth c H locs cells slots Q (F0 m pc ls (.ref a :: rest)) := y_slen0 C V hml (t_jdk_i hj) hv hd hfr hlo hc hs kk
theorem y_schr {k a n : Nat} {f : Nat → Int32} {i : Int32} (C : y_C p s m args meth c mm) (V : y_V D dA lo s s.heap A H locs) (hml : ls.size = c.maxLocals) (hj : t_jdk (t_own mm) k = some 9) (hv : x_str A a = some (n, f)) (hi : vp_in i n) (hd : decode (y_by mm) pc = .ok (.invokevirtual k, 3)) (hfr : 8 ≤ R.frames) (hlo : x_words rest + 100 ≤ R.locals) (hc : cells ≤ R.cells) (hs : slots ≤ R.slots)
    (kk : W p l e R s m args below meth c H locs cells slots Q (F0 m (pc + 3) ls (.int (f i.toNatClampNeg) :: rest))) : W p l e R s m args below meth c H locs cells slots Q (F0 m pc ls (.int i :: .ref a :: rest)) := y_schr0 C V hml (t_jdk_i hj) hv hi hd hfr hlo hc hs kk
theorem x_dims_i : ∀ (d : Nat) (st : List Value) (ds : List Nat) (r : List Value), x_dims d st = some (ds, r) → ∃ cs : List Int32, cs.length = d ∧ st = (cs.map Value.int).reverse ++ r ∧ cs.map (fun n => n.toNatClampNeg) = ds ∧ ∀ n ∈ cs, ¬ n < 0 ∧ n.toNatClampNeg ≤ 5000
  | 0, st, ds, r, h => by cases h; exact ⟨[], rfl, rfl, rfl, fun _ h => nomatch h⟩
  | d + 1, [], ds, r, h => by cases h
  | d + 1, v :: st, ds, r, h => by
    cases v with
    | int n =>
      have h' : (if n < 0 ∨ 5000 < n.toNatClampNeg then none else (x_dims d st).map (fun z => (z.1 ++ [n.toNatClampNeg], z.2))) = some (ds, r) := h
      split at h'
      · cases h'
      · rename_i hn
        cases hx : x_dims d st with
        | none => rw [hx] at h'; cases h'
        | some z =>
          obtain ⟨ds', r'⟩ := z
          rw [hx] at h'
          cases h'
          obtain ⟨cs, h1, h2, h3, h4⟩ := x_dims_i d st ds' r' hx
          refine ⟨cs ++ [n], by rw [List.length_append, h1]; rfl, ?_, ?_, fun m hm => ?_⟩
          · rw [List.map_append, List.reverse_append, h2]; rfl
          · rw [List.map_append, h3]; rfl
          · rcases List.mem_append.mp hm with q | q
            · exact h4 m q
            · rw [List.mem_singleton.mp q]
              exact ⟨fun w => hn (Or.inl w), Nat.not_lt.mp fun w => hn (Or.inr w)⟩
    | _ => cases h
theorem y_kind {t : Nat} {ty : FieldType} (hK : va_K D vwCl (y_tys dA) s) (ht : (y_tys dA)[t]? = some (dA t, ty)) : ∃ (k : Class) (comp : ClassId), s.vm.classes[dA t]? = some k ∧ k.kind = .array comp ty := by
  obtain ⟨-, k, hk, comp, hkind⟩ := (hK.2 t _ ht).1 0 (fun _ => .null)
  exact ⟨k, comp, hk, hkind⟩
theorem y_kindA {t u : Nat} {w : FieldType} {a' : Array Value} (hK : va_K D vwCl (y_tys dA) s) (ho : (Cond.arrayOver (.array w)).before a' s = true) (h1 : (y_tys dA)[t]? = some (dA t, .array w)) (h2 : s.vm.findClass (FieldType.array w).toString = some (dA u)) : ∃ k : Class, s.vm.classes[dA t]? = some k ∧ k.kind = .array (dA u) (.array w) := by
  obtain ⟨comp, c0, k, e1, e2, e3, e4⟩ := y_aoSpec ho
  have f1 : s.vm.findClass ("[" ++ (FieldType.array w).toString) = some (dA t) := (hK.2 t _ h1).2
  cases e4.symm.trans f1
  cases e1.symm.trans h2
  exact ⟨k, e2, e3⟩
def y_tk : List Nat → Nat → Prop
  | [], _ => False
  | [_], t => t = 0 ∨ t = 2
  | _ :: (k :: r), t => 6 ≤ t ∧ t < 11 ∧ y_tk (k :: r) (x_sub t)
theorem y_tk_tok : ∀ (ds : List Nat) (t : Nat), y_tk ds t → y_tok ds t
  | [], _, h => h
  | [_], _, h => h
  | _ :: (k :: r), t, ⟨h1, h2, h3⟩ => ⟨by omega, h2, y_tk_tok (k :: r) _ h3⟩
theorem y_outk {t : Nat} {U : State} (C : y_C p s m args meth c mm) (hK : va_K D vwCl (y_tys dA) s) (hal : s.vm.Alike U.vm) (h6 : 6 ≤ t) (h11 : t < 11) : ∃ (k : Class) (ty : FieldType), U.vm.classes[dA t]? = some k ∧ k.kind = .array (dA (x_sub t)) ty ∧ ty.isReference = true ∧ componentBytes ty = 4 := by
  have hts := C.2.2.2.2.1
  have mv : ∀ (w : FieldType), (∃ k : Class, s.vm.classes[dA t]? = some k ∧ k.kind = .array (dA (x_sub t)) (.array w)) → ∃ (k : Class) (ty : FieldType), U.vm.classes[dA t]? = some k ∧ k.kind = .array (dA (x_sub t)) ty ∧ ty.isReference = true ∧ componentBytes ty = 4 := by
    rintro w ⟨k, hk, e⟩
    obtain ⟨k', hk', he⟩ := hal.2.2 _ _ hk
    exact ⟨k', .array w, hk', by rw [he]; exact e, rfl, rfl⟩
  have : t = 6 ∨ t = 7 ∨ t = 8 ∨ t = 9 ∨ t = 10 := by omega
  rcases this with rfl | rfl | rfl | rfl | rfl
  · exact mv .int (y_kindA hK (hts _ y_aoA.1 rfl) rfl (hK.2 0 _ rfl).2)
  · exact mv (.array .int) (y_kindA hK (hts _ y_aoA.2.1 rfl) rfl (hK.2 6 _ rfl).2)
  · exact mv .byte (y_kindA hK (hts _ y_aoA.2.2.1 rfl) rfl (hK.2 2 _ rfl).2)
  · exact mv (.array .byte) (y_kindA hK (hts _ y_aoA.2.2.2.1 rfl) rfl (hK.2 8 _ rfl).2)
  · exact mv (.array (.array .byte)) (y_kindA hK (hts _ y_aoA.2.2.2.2 rfl) rfl (hK.2 9 _ rfl).2)
theorem y_mokof {U : State} (C : y_C p s m args meth c mm) (hK : va_K D vwCl (y_tys dA) s) (hal : s.vm.Alike U.vm) (hl : e.platform.arrayLengthLimit = 2147483645) (hb : e.platform.maxHeapBytes = 536870912) : ∀ (ds : List Nat) (t : Nat), y_tk ds t → (∀ n ∈ ds, n ≤ 5000) → y_mok U e (y_zs dA ds t)
  | [], _, h, _ => h
  | [n], t, h, hn => by
    have hn1 := hn n (by simp)
    rcases h with rfl | rfl
    · obtain ⟨k, comp, hk, hkind⟩ := y_kind (t := 0) hK rfl
      obtain ⟨k', hk', he⟩ := hal.2.2 _ _ hk
      refine ⟨k', comp, .int, hk', by rw [he]; exact hkind, rfl, rfl, rfl, by rw [hl]; show n ≤ _; omega, ?_⟩
      rw [hb]
      show n * 4 ≤ 536870912
      omega
    · obtain ⟨k, comp, hk, hkind⟩ := y_kind (t := 2) hK rfl
      obtain ⟨k', hk', he⟩ := hal.2.2 _ _ hk
      refine ⟨k', comp, .byte, hk', by rw [he]; exact hkind, rfl, y_byte0, rfl, by rw [hl]; show n ≤ _; omega, ?_⟩
      rw [hb]
      show n * 1 ≤ 536870912
      omega
  | n :: k0 :: r, t, ⟨h6, h11, h3⟩, hn => by
    have hn1 := hn n (by simp)
    have ih := y_mokof C hK hal hl hb (k0 :: r) (x_sub t) h3 (fun x hx => hn x (List.mem_cons_of_mem _ hx))
    obtain ⟨k, ty, g1, g2, g3, g4⟩ := y_outk C hK hal h6 h11
    have fin : ∀ q, y_zs dA (n :: k0 :: r) t = (dA t, n, .null) :: q → y_zs dA (k0 :: r) (x_sub t) = q → (∃ z q', q = z :: q' ∧ z.1 = dA (x_sub t)) → y_mok U e (y_zs dA (n :: k0 :: r) t) := by
      rintro q e1 e2 ⟨z, q', rfl, hz⟩
      rw [e1]
      rw [e2] at ih
      refine ⟨⟨k, ty, g1, by rw [hz]; exact g2, g3, by rw [hl]; show n ≤ _; omega, ?_⟩, ih⟩
      rw [hb, g4]
      show n * 4 ≤ 536870912
      omega
    cases r with
    | nil => exact fin _ rfl rfl ⟨_, _, rfl, rfl⟩
    | cons k1 r1 => exact fin _ rfl rfl ⟨_, _, rfl, rfl⟩
theorem y_multi0 {k t d : Nat} {ds : List Nat} {st : List Value} (C : y_C p s m args meth c mm) (V : y_V D dA lo s s.heap A H locs) (ht : t_mul (t_own mm) k = some t) (hds : x_dims d st = some (ds, rest)) (hd234 : d = 2 ∨ d = 3 ∨ d = 4) (htk : y_tk ds t) (hfc : s.vm.findClass (y_mun t) = some (dA t)) (hd : decode (y_by mm) pc = .ok (.multianewarray k d, 4)) (hc : cells + ((x_multi ds t A).2.1 - A.2.1) ≤ R.cells) (hs : slots + ((x_multi ds t A).2.2.1 - A.2.2.1) ≤ R.slots)
    (kk : ∀ H1 : Heap, y_V D dA lo s s.heap (x_multi ds t A) H1 locs → W p l e R s m args below meth c H1 locs (cells + ((x_multi ds t A).2.1 - A.2.1)) (slots + ((x_multi ds t A).2.2.1 - A.2.2.1)) Q (F0 m (pc + 4) ls (.ref A.2.1 :: rest))) : W p l e R s m args below meth c H locs cells slots Q (F0 m pc ls st) := by
  have C' := C
  obtain ⟨hx, hb, -, hown, hts, -⟩ := C
  have hlk : Cond.classLink (y_own (t_own mm)) k (y_mun t) ∈ lw_tbl := y_mu _ (t_find3 ht)
  obtain ⟨cs, h1, h2, h3, h4⟩ := x_dims_i d st ds rest hds
  have e1 : (x_multi ds t A).2.1 - A.2.1 = y_mzc (y_zs dA ds t) := by rw [(x_multi_nx ds t A).1, (y_zs_c dA ds t).1]; omega
  have e2 : (x_multi ds t A).2.2.1 - A.2.2.1 = y_mzu (y_zs dA ds t) := by rw [(x_multi_nx ds t A).2, (y_zs_c dA ds t).2]; omega
  rw [e1] at hc kk
  rw [e2] at hs kk
  have hz0 : (y_zs dA ds t).head?.map (fun z => z.1) = some (dA t) := by
    cases ds with
    | nil => exact absurd htk id
    | cons n r => cases r <;> rfl
  have hcs : d = 2 ∧ (∃ a b, cs = [a, b]) ∨ d = 3 ∧ (∃ a b z, cs = [a, b, z]) ∨ d = 4 ∧ ∃ a b z y, cs = [a, b, z, y] := by
    rcases hd234 with rfl | rfl | rfl
    · left
      match cs, h1 with
      | [a, b], _ => exact ⟨rfl, a, b, rfl⟩
    · right; left
      match cs, h1 with
      | [a, b, z], _ => exact ⟨rfl, a, b, z, rfl⟩
    · right; right
      match cs, h1 with
      | [a, b, z, y], _ => exact ⟨rfl, a, b, z, y, rfl⟩
  have hn5 : ∀ n ∈ ds, n ≤ 5000 := by
    intro n hn
    rw [← h3] at hn
    obtain ⟨x, hx1, hx2⟩ := List.mem_map.mp hn
    rw [← hx2]
    exact (h4 x hx1).2
  intro T hT X
  have hl : e.platform.arrayLengthLimit = 2147483645 := Launch.admits_arrayLengthLimit X.admits
  have hh : e.platform.maxHeapBytes = 536870912 := Launch.admits_maxHeapBytes X.admits
  have hTs : s.heap.size ≤ T.heap.size := by rw [hT]; exact V.2.2.2.1
  obtain ⟨vm₁, hW, X', stp⟩ := y_mstep (zs := y_zs dA ds t) (cs := cs) (rest := rest) (g := F0 m pc ls st) X hx hown (hts _ hlk rfl) hcs rfl (by rw [hb]; exact hd) h2 hz0 hfc (by rw [h3]; exact (y_zs_s dA ds t).symm) (fun n hn => (h4 n hn).1) (fun U hU => y_mokof C' V.2.2.1 hU hl hh ds t htk hn5) hTs hc hs
  have V0 : y_V D dA lo s s.heap A (T.setVm vm₁).heap locs := by
    show y_V D dA lo s s.heap A T.heap locs
    rw [hT]; exact V
  have V' := y_world ds t (y_tk_tok ds t htk) (T.setVm vm₁) A V0
  obtain ⟨t9, b1, b2⟩ := kk _ V' _ rfl X'
  refine ⟨t9, stp t9 ?_, b2⟩
  have e9 : T.heap.size = A.2.1 := by rw [hT]; exact V.1.1
  rw [e9]
  exact b1
theorem y_multi {k t d : Nat} {ds : List Nat} {st : List Value} (C : y_C p s m args meth c mm) (V : y_V D dA lo s s.heap A H locs) (ht : t_mul (t_own mm) k = some t) (hds : x_dims d st = some (ds, rest)) (h : ((t == 6 && d == 2) || (t == 7 && d == 3) || (t == 10 && d == 4)) = true) (hd : decode (y_by mm) pc = .ok (.multianewarray k d, 4)) (hc : cells + ((x_multi ds t A).2.1 - A.2.1) ≤ R.cells) (hs : slots + ((x_multi ds t A).2.2.1 - A.2.2.1) ≤ R.slots)
    (kk : ∀ H1 : Heap, y_V D dA lo s s.heap (x_multi ds t A) H1 locs → W p l e R s m args below meth c H1 locs (cells + ((x_multi ds t A).2.1 - A.2.1)) (slots + ((x_multi ds t A).2.2.1 - A.2.2.1)) Q (F0 m (pc + 4) ls (.ref A.2.1 :: rest))) : W p l e R s m args below meth c H locs cells slots Q (F0 m pc ls st) := by
  have hK := V.2.2.1
  simp only [Bool.or_eq_true, Bool.and_eq_true, beq_iff_eq] at h
  obtain ⟨cs, h1, h2, h3, -⟩ := x_dims_i d st ds rest hds
  have hlen : ds.length = d := by rw [← h3, List.length_map, h1]
  rcases h with (⟨rfl, rfl⟩ | ⟨rfl, rfl⟩) | ⟨rfl, rfl⟩
  · match ds, hlen with
    | [a, b], _ => exact y_multi0 C V ht hds (Or.inl rfl) ⟨by decide, by decide, Or.inl rfl⟩ (hK.2 6 _ rfl).2 hd hc hs kk
  · match ds, hlen with
    | [a, b, z], _ => exact y_multi0 C V ht hds (Or.inr (Or.inl rfl)) ⟨by decide, by decide, by decide, by decide, Or.inl rfl⟩ (hK.2 7 _ rfl).2 hd hc hs kk
  · match ds, hlen with
    | [a, b, z, y], _ => exact y_multi0 C V ht hds (Or.inr (Or.inr rfl)) ⟨by decide, by decide, by decide, by decide, by decide, by decide, Or.inr rfl⟩ (hK.2 10 _ rfl).2 hd hc hs kk
theorem y_cpI {k a b : Nat} {sp dp n : Int32} {A' : Hp} (C : y_C p s m args meth c mm) (V : y_V D dA lo s s.heap A H locs) (hml : ls.size = c.maxLocals) (hj : t_jdk (t_own mm) k = some 7) (hv : x_cpI A a b sp dp n = some A') (hd : decode (y_by mm) pc = .ok (.invokestatic k, 3)) (hfr : 1 ≤ R.frames) (hlo : x_words rest + 100 ≤ R.locals)
    (kk : ∀ (H1 : Heap) (locs1 : List Loc), y_V D dA lo s s.heap A' H1 locs1 → W p l e R s m args below meth c H1 locs1 cells slots Q (F0 m (pc + 3) ls rest)) : W p l e R s m args below meth c H locs cells slots Q (F0 m pc ls (.int n :: .int dp :: .ref b :: .int sp :: .ref a :: rest)) := by
  have hlk : Cond.methodLink (y_own (t_own mm)) k arraycopyName ∈ lw_tbl := t_jdk_i hj
  unfold x_cpI at hv
  split at hv
  · rename_i t n0 f u n1 g hA hB
    split at hv
    · rename_i hcd
      simp only [Bool.and_eq_true, Bool.or_eq_true, beq_iff_eq, Bool.not_eq_true', decide_eq_false_iff_not, decide_eq_true_eq] at hcd
      obtain ⟨⟨⟨⟨⟨⟨⟨rfl, ht⟩, -⟩, h1⟩, h2⟩, h3⟩, h4⟩, h5⟩ := hcd
      cases hv
      have ho : y_ord (.inl (t, n0, .inl f)) := by rcases ht with rfl | rfl <;> simp [y_ord]
      have ho' : y_ord (.inl (t, n1, .inl g)) := by rcases ht with rfl | rfl <;> simp [y_ord]
      have hc0 : H[a]? = some (vp_cell (dA t) (n0, .inl f)) := V.at hA ho
      have hc1 : H[b]? = some (vp_cell (dA t) (n1, .inl g)) := V.at hB ho'
      rw [vp_cell_i] at hc0 hc1
      have hfbA := (V.1.2.2 a _ (V.lo hA ho) hA).2.1
      have hfbB := (V.1.2.2 b _ (V.lo hB ho') hB).2.1
      have key : ∀ ty, (y_tys dA)[t]? = some (dA t, ty) → refKind ty = false → (∀ j, fits ty (.int (f j)) = true) → W p l e R s m args below meth c H locs cells slots Q (F0 m pc ls (.int n :: .int dp :: .ref b :: .int sp :: .ref a :: rest)) := by
        intro ty hty hpr hft
        refine y_copy (fun z => .int z) (fun _ => rfl) C rfl hml hlk hc0 hc1 V.2.2.1 hty hty hpr h1 h2 h3 h4 h5 (fun i _ => hft _) hfr hlo hd fun H1 e1 e2 e3 locs1 hl => ?_
        refine kk H1 locs1 (V.sets hB ho' ho' ?_ ?_ e2 e3 hl)
        · rcases ht with rfl | rfl
          · trivial
          · show ∀ j, fits .byte (.int (va_cpy f g _ _ _ j)) = true
            intro j
            unfold va_cpy
            split
            · exact hfbA _
            · exact hfbB _
        · show H1[b]? = some (vp_cell (dA t) _)
          rw [e1, vp_cell_i]
      rcases ht with rfl | rfl
      · exact key .int rfl rfl (fun _ => rfl)
      · exact key .byte rfl rfl hfbA
    · cases hv
  · rename_i n0 f n1 g hA hB
    split at hv
    · rename_i hcd
      simp only [Bool.and_eq_true, Bool.not_eq_true', decide_eq_false_iff_not, decide_eq_true_eq] at hcd
      obtain ⟨⟨⟨⟨⟨-, h1⟩, h2⟩, h3⟩, h4⟩, h5⟩ := hcd
      cases hv
      have ho : y_ord (.inl (1, n0, .inr (.inl f))) := by simp [y_ord]
      have ho' : y_ord (.inl (1, n1, .inr (.inl g))) := by simp [y_ord]
      have hc0 : H[a]? = some (vp_cell (dA 1) (n0, .inr (.inl f))) := V.at hA ho
      have hc1 : H[b]? = some (vp_cell (dA 1) (n1, .inr (.inl g))) := V.at hB ho'
      rw [vp_cell_l] at hc0 hc1
      refine y_copy (fun z => .long z) (fun _ => rfl) C rfl hml hlk hc0 hc1 V.2.2.1 rfl rfl rfl h1 h2 h3 h4 h5 (fun i _ => rfl) hfr hlo hd fun H1 e1 e2 e3 locs1 hl => ?_
      refine kk H1 locs1 (V.sets hB ho' ho' trivial ?_ e2 e3 hl)
      show H1[b]? = some (vp_cell (dA 1) _)
      rw [e1, vp_cell_l]
    · cases hv
  · cases hv
theorem x_words_cons (v : Value) (st : List Value) : x_words (v :: st) = v.category + x_words st := by simp [x_words]
theorem y_mem {i : Instr} {st st' : List Value} {A' : Hp} (C : y_C p s m args meth c mm) (V : y_V D dA lo s s.heap A H locs) (hml : ls.size = c.maxLocals) (h : x_mem mm i st A = some (st', A')) (hd : decode (y_by mm) pc = .ok (i, x_len i)) (hfr : 8 ≤ R.frames) (hlo : 300 ≤ R.locals) (hc : cells + (A'.2.1 - A.2.1) ≤ R.cells) (hs : slots + (A'.2.2.1 - A.2.2.1) ≤ R.slots)
    (kk : ∀ (H1 : Heap) (locs1 : List Loc), y_V D dA lo s s.heap A' H1 locs1 → W p l e R s m args below meth c H1 locs1 (cells + (A'.2.1 - A.2.1)) (slots + (A'.2.2.1 - A.2.2.1)) Q (F0 m (pc + x_len i) ls st')) : W p l e R s m args below meth c H locs cells slots Q (F0 m pc ls st) := by
  have same : A' = A → W p l e R s m args below meth c H locs cells slots Q (F0 m (pc + x_len i) ls st') := by
    intro q
    subst q
    have := kk H locs V
    rwa [Nat.sub_self, Nat.sub_self, Nat.add_zero, Nat.add_zero] at this
  have kept : (A'.2.1 = A.2.1 ∧ A'.2.2.1 = A.2.2.1) → ∀ (H1 : Heap) (locs1 : List Loc), y_V D dA lo s s.heap A' H1 locs1 → W p l e R s m args below meth c H1 locs1 cells slots Q (F0 m (pc + x_len i) ls st') := by
    intro q H1 locs1 V1
    have := kk H1 locs1 V1
    rwa [q.1, q.2, Nat.sub_self, Nat.sub_self, Nat.add_zero, Nat.add_zero] at this
  have hmap : ∀ {α : Type} {o : Option α} {g : α → List Value × Hp} {z : List Value × Hp}, o.map g = some z → ∃ v, o = some v ∧ g v = z := fun {α o g z} q => by
    cases o with
    | none => cases q
    | some v => exact ⟨v, rfl, Option.some.inj q⟩
  unfold x_mem at h
  split at h
  · split at h
    · rename_i ci j a r ht
      obtain ⟨v, hv, hz⟩ := hmap h
      cases hz
      exact y_getf C V ht hv hd (same rfl)
    · cases h
  · split at h
    · rename_i ci j v a r ht
      split at h
      · rename_i hcd
        rw [Bool.and_eq_true] at hcd
        obtain ⟨B, hv, hz⟩ := hmap h
        cases hz
        have : A'.2.1 = A.2.1 ∧ A'.2.2.1 = A.2.2.1 := by
          unfold x_fldS at hv
          split at hv
          · split at hv
            · cases hv; exact ⟨rfl, rfl⟩
            · cases hv
          · cases hv
        exact y_putf C V ht hcd.1 hcd.2 hv hd (kept this)
      · cases h
    · cases h
  · split at h
    · obtain ⟨n, hv, hz⟩ := hmap h
      cases hz
      exact y_alen C V hv hd (same rfl)
    · cases h
  · split at h
    · obtain ⟨n, hv, hz⟩ := hmap h
      cases hz
      exact y_iald C V hv hd (same rfl)
    · cases h
  · split at h
    · obtain ⟨n, hv, hz⟩ := hmap h
      cases hz
      exact y_bald C V hv hd (same rfl)
    · cases h
  · split at h
    · obtain ⟨n, hv, hz⟩ := hmap h
      cases hz
      exact y_lald C V hv hd (same rfl)
    · cases h
  · split at h
    · obtain ⟨n, hv, hz⟩ := hmap h
      cases hz
      exact y_aald C V hv hd (same rfl)
    · cases h
  · split at h
    · obtain ⟨B, hv, hz⟩ := hmap h
      cases hz
      have : A'.2.1 = A.2.1 ∧ A'.2.2.1 = A.2.2.1 := by
        unfold x_aiS at hv
        split at hv
        · split at hv
          · cases hv; exact ⟨rfl, rfl⟩
          · cases hv
        · cases hv
      exact y_iast C V hv hd (kept this)
    · cases h
  · split at h
    · obtain ⟨B, hv, hz⟩ := hmap h
      cases hz
      have : A'.2.1 = A.2.1 ∧ A'.2.2.1 = A.2.2.1 := by
        unfold x_abS at hv
        split at hv
        · split at hv
          · cases hv; exact ⟨rfl, rfl⟩
          · split at hv
            · cases hv; exact ⟨rfl, rfl⟩
            · cases hv
        · cases hv
      exact y_bast C V hv hd (kept this)
    · cases h
  · split at h
    · obtain ⟨B, hv, hz⟩ := hmap h
      cases hz
      have : A'.2.1 = A.2.1 ∧ A'.2.2.1 = A.2.2.1 := by
        unfold x_alS at hv
        split at hv
        · split at hv
          · cases hv; exact ⟨rfl, rfl⟩
          · cases hv
        · cases hv
      exact y_last C V hv hd (kept this)
    · cases h
  · split at h
    · obtain ⟨B, hv, hz⟩ := hmap h
      cases hz
      have : A'.2.1 = A.2.1 ∧ A'.2.2.1 = A.2.2.1 := by
        unfold x_aqS at hv
        split at hv
        · split at hv
          · split at hv
            · cases hv; exact ⟨rfl, rfl⟩
            · cases hv
          · cases hv
        · cases hv
      exact y_aast C V hv hd (kept this)
    · obtain ⟨B, hv, hz⟩ := hmap h
      cases hz
      have : A'.2.1 = A.2.1 ∧ A'.2.2.1 = A.2.2.1 := by
        unfold x_aqN at hv
        split at hv
        · split at hv
          · cases hv; exact ⟨rfl, rfl⟩
          · cases hv
        · cases hv
      exact y_aastN C V hv hd (kept this)
    · cases h
  · split at h
    · rename_i ci ht
      cases h
      have hci : ci < 13 := by
        have hm := t_find3 (L := t_nw) ht
        have : ∀ e ∈ t_nw, e.2.2 < 13 := by decide
        exact this _ hm
      have e1 : (h_push A (.inr (ci, t_df.getD ci [])) (t_nf.getD ci 0)).2.1 - A.2.1 = 1 := Nat.add_sub_cancel_left _ _
      have e2 : (h_push A (.inr (ci, t_df.getD ci [])) (t_nf.getD ci 0)).2.2.1 - A.2.2.1 = t_nf.getD ci 0 := Nat.add_sub_cancel_left _ _
      rw [e1, e2] at kk
      rw [e1] at hc
      rw [e2] at hs
      exact y_new C V ht hci hd hc hs fun H1 V1 => kk H1 locs V1
    · cases h
  · split at h
    · rename_i t n r ht
      split at h
      · cases h
      · rename_i hn
        cases h
        have e1 : (h_push A (x_arr0 t n.toNatClampNeg) n.toNatClampNeg).2.1 - A.2.1 = 1 := Nat.add_sub_cancel_left _ _
        have e2 : (h_push A (x_arr0 t n.toNatClampNeg) n.toNatClampNeg).2.2.1 - A.2.2.1 = n.toNatClampNeg := Nat.add_sub_cancel_left _ _
        rw [e1, e2] at kk
        rw [e1] at hc
        rw [e2] at hs
        exact y_newa C V ht hn hd hc hs fun H1 V1 => kk H1 locs V1
    · cases h
  · split at h
    · rename_i ci n r ht
      split at h
      · cases h
      · rename_i hn
        split at h
        · rename_i hci
          subst hci
          cases h
          have e1 : (h_push A (x_arr0 4 n.toNatClampNeg) n.toNatClampNeg).2.1 - A.2.1 = 1 := Nat.add_sub_cancel_left _ _
          have e2 : (h_push A (x_arr0 4 n.toNatClampNeg) n.toNatClampNeg).2.2.1 - A.2.2.1 = n.toNatClampNeg := Nat.add_sub_cancel_left _ _
          rw [e1, e2] at kk
          rw [e1] at hc
          rw [e2] at hs
          exact y_anew C V ht rfl y_ao4 (fun _ => rfl) (by decide) (by decide) hn hd hc hs fun H1 V1 => kk H1 locs V1
        · split at h
          · rename_i hci
            subst hci
            cases h
            have e1 : (h_push A (x_arr0 5 n.toNatClampNeg) n.toNatClampNeg).2.1 - A.2.1 = 1 := Nat.add_sub_cancel_left _ _
            have e2 : (h_push A (x_arr0 5 n.toNatClampNeg) n.toNatClampNeg).2.2.1 - A.2.2.1 = n.toNatClampNeg := Nat.add_sub_cancel_left _ _
            rw [e1, e2] at kk
            rw [e1] at hc
            rw [e2] at hs
            exact y_anew C V ht rfl y_ao5 (fun _ => rfl) (by decide) (by decide) hn hd hc hs fun H1 V1 => kk H1 locs V1
          · cases h
    · cases h
  · split at h
    · rename_i t ds r ht hds
      split at h
      · rename_i hcd
        cases h
        exact y_multi C V ht hds hcd hd hc hs fun H1 V1 => kk H1 locs V1
      · cases h
    · cases h
  · split at h
    · rename_i t a r ht
      split at h
      · rename_i u n x hA
        split at h
        · rename_i hcd
          rw [Bool.and_eq_true, Bool.or_eq_true, beq_iff_eq, beq_iff_eq, beq_iff_eq] at hcd
          obtain ⟨rfl, h01⟩ := hcd
          cases h
          exact y_castA C V ht h01 hA hd (same rfl)
        · cases h
      · cases h
    · cases h
  · exact y_ldc C V (Or.inl rfl) (by unfold x_mem; exact h) hd same
  · exact y_ldc C V (Or.inr (Or.inl rfl)) (by unfold x_mem; exact h) hd same
  · exact y_ldc C V (Or.inr (Or.inr rfl)) (by unfold x_mem; exact h) hd same
  · rename_i k
    split at h
    · rename_i hcd
      obtain ⟨hw, hk⟩ := hcd
      unfold x_jS at hk
      simp only [Bool.or_eq_true, beq_iff_eq] at hk
      obtain ⟨hx, hb, hm2, hown, hts, -⟩ := id C
      rcases hk with ((hk | hk) | hk) | hk
      · rw [x_jdk_1 hk] at h
        split at h
        · rename_i y x r
          cases h
          simp only [x_words_cons, Value.category] at hw
          exact va_mmin hx hb hml.symm hown (hts _ (t_jdk_i hk) rfl) (hts _ y_mn0.1 rfl) (hts _ y_mn0.2.1 rfl) (hts _ y_mn0.2.2 rfl) (by omega) (by unfold x_words at hw; omega) (by omega) (by omega) hd (same rfl)
        · cases h
      · rw [x_jdk_2 hk] at h
        split at h
        · rename_i y x r
          cases h
          simp only [x_words_cons, Value.category] at hw
          exact va_mmax hx hb hml.symm hown (hts _ (t_jdk_i hk) rfl) (hts _ y_mx0.1 rfl) (hts _ y_mn0.2.1 rfl) (hts _ y_mx0.2 rfl) (by omega) (by unfold x_words at hw; omega) (by omega) (by omega) hd (same rfl)
        · cases h
      · rw [x_jdk_3 hk] at h
        split at h
        · rename_i y x r
          cases h
          simp only [x_words_cons, Value.category] at hw
          exact va_mmin_long hx hb hml.symm hown (hts _ (t_jdk_i hk) rfl) (hts _ y_ml0.1 rfl) (hts _ y_mn0.2.1 rfl) (hts _ y_ml0.2 rfl) (by omega) (by unfold x_words at hw; omega) (by omega) (by omega) hd (same rfl)
        · cases h
      · rw [x_jdk_7 hk] at h
        split at h
        · rename_i n dp b sp a r
          obtain ⟨B, hv, hz⟩ := hmap h
          cases hz
          simp only [x_words_cons, Value.category] at hw
          have : A'.2.1 = A.2.1 ∧ A'.2.2.1 = A.2.2.1 := by
            unfold x_cpI at hv
            split at hv
            · split at hv
              · cases hv; exact ⟨rfl, rfl⟩
              · cases hv
            · split at hv
              · cases hv; exact ⟨rfl, rfl⟩
              · cases hv
            · cases hv
          exact y_cpI C V hml hk hv hd (by omega) (by omega) (kept this)
        · cases h
    · cases h
  · rename_i k
    split at h
    · rename_i hcd
      obtain ⟨hw, hk⟩ := hcd
      unfold x_jV at hk
      simp only [Bool.or_eq_true, beq_iff_eq] at hk
      rcases hk with (hk | hk) | hk
      · rw [x_jdk_8 hk] at h
        split at h
        · rename_i a r
          obtain ⟨⟨n, f⟩, hv, hz⟩ := hmap h
          cases hz
          simp only [x_words_cons, Value.category] at hw
          exact y_slen C V hml hk hv hd hfr (by omega) (by omega) (by omega) (same rfl)
        · cases h
      · rw [x_jdk_9 hk] at h
        split at h
        · rename_i i a r
          split at h
          · rename_i n f hv
            split at h
            · rename_i hin
              cases h
              simp only [x_words_cons, Value.category] at hw
              exact y_schr C V hml hk hv (x_in_i hin) hd hfr (by omega) (by omega) (by omega) (same rfl)
            · cases h
          · cases h
        · cases h
      · rw [x_jdk_11 hk] at h
        split at h
        · rename_i a r
          obtain ⟨B, hv, hz⟩ := hmap h
          cases hz
          simp only [x_words_cons, Value.category] at hw
          exact y_clone C V hml hk hv hd (by omega) (by omega) hc hs fun H1 V1 => kk H1 locs V1
        · cases h
    · cases h
  · rename_i k
    split at h
    · rename_i hcd
      obtain ⟨hw, hk⟩ := hcd
      unfold x_jI at hk
      rw [beq_iff_eq] at hk
      obtain ⟨hx, hb, hm2, hown, hts, -⟩ := id C
      rw [x_jdk_10 hk] at h
      split at h
      · rename_i a r
        split at h
        · cases h
          simp only [x_words_cons, Value.category] at hw
          exact W.objInit hx hb hown (hts _ (t_jdk_i hk) rfl) (hts _ y_oi0.1 rfl) (hts _ y_oi0.2 rfl) (g := F0 m pc ls (.ref a :: st')) rfl hml rfl hd (by omega) (by show 2 * 0 + _ + 12 ≤ _; unfold x_words at hw; omega) (same rfl)
        · cases h
      · cases h
    · cases h
  · cases h
end YJ

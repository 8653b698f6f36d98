/-! the JDK's own length() and charAt() on the given texts -/
theorem y_decl {args : Array Value} {U : State} {x : MethodName} {bytes : ByteArray} {ml : Nat} {ret : Option FieldType} (h1 : (Cond.instanceMethod x).before args U = true) (h2 : (Cond.code x bytes ml ret).before args U = true) : (Cond.declares x).before args U = true := by
  obtain ⟨mk, meth, hn, hm, hst, hab⟩ := Cond.instanceMethod_spec h1
  obtain ⟨meth', c, hm', -, -, -, -, -, -, hsig⟩ := Cond.code_spec hn h2
  cases hm.symm.trans hm'
  simp [Cond.before, Cond.holds, Cond.value, hn, hm, hst, hsig]
theorem y_sig {args : Array Value} {U : State} {x : MethodName} {bytes : ByteArray} {ml : Nat} {ret : Option FieldType} (h : (Cond.code x bytes ml ret).before args U = true) : Lib.Cold.Sig U x := by
  obtain ⟨mk, hn⟩ := Cond.code_named h
  obtain ⟨meth, c, hm, -, -, -, -, -, -, hsig⟩ := Cond.code_spec hn h
  exact ⟨mk, meth, hn, hm, hsig⟩
theorem y_sis {C n d : String} {v : Value} {A : Nat → Prop} {U V : State} {H : Heap} (h : va_Z C n d v A U H) (hvm : U.vm.Alike V.vm) (hH : V.heap = H) : Lib.Cold.StaticIs V C n d v := by
  obtain ⟨cf, kf, fi, f, a, cell, h1, h2, h3, h4, h5, h6, h7, -⟩ := h.moved hvm
  exact ⟨cf, fi, kf, f, a, cell, h1, h2, h3, h4, by rw [hH]; exact h5, (fun q => by rw [q] at h6; cases h6), h7⟩
theorem y_sx.coder {lo a v : Nat} {U : State} {args : Array Value} (h : y_sx lo a v U U.heap) (ha : args[0]? = some (.ref a)) : (Term.field (.arg 0) "java/lang/String" "coder" "B").eval args U none [] U = some (.int 0) := by
  obtain ⟨h0, cell, k, h1, h2, h3, h4, h5, h6, ⟨cf, k2, i, f, g1, g2, g3, g4⟩, -⟩ := h
  rw [va_fe (a := a) (by simpa [Term.eval] using ha)]
  simp [State.fieldOf?, State.fieldNamed?, g1, g2, h1, h4, h5, g3, g4]
theorem y_sx.value {lo a v : Nat} {U : State} {args : Array Value} (h : y_sx lo a v U U.heap) (ha : args[0]? = some (.ref a)) : (Term.field (.arg 0) "java/lang/String" "value" "[B").eval args U none [] U = some (.ref v) := by
  obtain ⟨h0, cell, k, h1, h2, h3, h4, h5, h6, -, ⟨cf, k2, i, f, g1, g2, g3, g4⟩⟩ := h
  rw [va_fe (a := a) (by simpa [Term.eval] using ha)]
  simp [State.fieldOf?, State.fieldNamed?, g1, g2, h1, h4, h5, g3, g4]
theorem y_sx.exa {lo a v : Nat} {U : State} {args : Array Value} (h : y_sx lo a v U U.heap) (ha : args[0]? = some (.ref a)) : (Cond.exactly (.arg 0) "java/lang/String").before args U = true := by
  obtain ⟨h0, cell, k, h1, h2, h3, h4, h5, h6, -⟩ := h
  have ht : (Term.arg 0).eval args U none [] U = some (.ref a) := by simpa [Term.eval] using ha
  simp only [Cond.before, Cond.holds, Cond.value, ht, h2, h1, h3]
  cases hk : k.kind <;> simp [hk, h4, h6]
theorem y_pure {st t : State} {o : Outcome} (h : Jvm.Free.PureEnd st o t) : Jvm.Free.FrameEnd st o t [] 0 0 := ⟨h.1, h.2.1, h.2.2.sameButNew 0 0⟩
theorem y_pureH {st t : State} {o : Outcome} (h : Jvm.Free.PureEnd st o t) : t.heap = st.heap := by
  have := congrArg State.heap (State.sameBut_nil.mp h.2.2)
  exact this
section YS
variable {p : Program} {l : Launch} {e : Env} {R : Room} {s : State} {m : MethodId} {args : Array Value} {below : List Frame} {meth : Method} {c : Code} {H : Heap} {locs : List Loc} {cells slots : Nat} {Q : State → Prop}
variable {pc mm : Nat} {ls : Array Slot} {D : va_G} {dA : Nat → ClassId} {lo : Nat} {A : Hp} {rest : List Value}
/-- a member of the JDK's that changes nothing, as a callee -/
theorem y_freeB {y : MethodName} {S : Spec} {P : Array Value → State → Prop} {Qc : Array Value → State → Outcome → State → Prop} {bytes : ByteArray} {maxL W : Nat} {ret : Option FieldType} {a0 : Array Value}
    (hM : Jvm.Free.MetFree l y S P (fun _ _ _ _ _ => True) Qc) (hrc : S.room.cells = 0) (hrs : S.room.slots = 0) (hframes : S.room.frames + 1 ≤ R.frames) (hlocals : W + (maxL + 11) + S.room.locals ≤ R.locals)
    (hpre : ∀ U : State, U.heap = H → s.WarmedH U.vm → S.pre.before a0 U = true ∧ (Cond.code y bytes maxL ret).before a0 U = true ∧ (Cond.initialized y.cls).before a0 U = true) (hP : ∀ U : State, U.heap = H → s.WarmedH U.vm → P a0 U) (hQ : ∀ a st o t, Qc a st o t → Jvm.Free.PureEnd st o t) :
    Jvm.Free.Back l R p e below s args y 3 W (fun A a => A.cells ≤ R.cells ∧ A.slots ≤ R.slots ∧ a = a0 ∧ A.U.heap = H) (fun A a v B => (∃ st t, Qc a0 st (.returned v) t) ∧ B.U.heap = H ∧ B.locs = A.locs ∧ B.cells = A.cells ∧ B.slots = A.slots) := by
  refine Jvm.Free.Back.of_free (S := S) (P := P) (K := fun _ _ _ _ _ => True) (Q := Qc) (bytes := bytes) (maxL := maxL) (ret := ret) (E := fun a st o t L k n => L = [] ∧ k = 0 ∧ n = 0) hM hframes hlocals ?_ ?_ (fun _ _ _ _ _ _ _ _ _ => trivial) ?_ ?_
  · rintro m meth c A a X ⟨h1, h2, rfl, h4⟩
    obtain ⟨p1, p2, p3⟩ := hpre A.U h4 X.warmed
    exact ⟨p1, p2, p3, by rw [hrc]; exact h1, by rw [hrs]; exact h2⟩
  · rintro m meth c A a g mk X ⟨h1, h2, rfl, h4⟩
    exact hP _ h4 X.warmed
  · intro a st o t hq
    exact ⟨[], 0, 0, y_pure (hQ _ _ _ _ hq), rfl, rfl, rfl⟩
  · rintro m meth c A a g mk v t L k n X ⟨h1, h2, rfl, h4⟩ hq hF ⟨rfl, rfl, rfl⟩
    refine ⟨⟨_, _, hq⟩, ?_, List.append_nil _, rfl, rfl⟩
    exact (y_pureH (hQ _ _ _ _ hq)).trans h4
theorem y_strAt {a n : Nat} {f : Nat → Int32} (V : y_V D dA lo s s.heap A H locs) (hv : x_str A a = some (n, f)) : ∃ (bs : List Int32) (v : Nat), n = bs.length ∧ f = (fun j => bs.getD j 0) ∧ (∀ b ∈ bs, 0 ≤ b ∧ b ≤ 127) ∧ va_T .byte v n (fun j => .int (bs.getD j 0)) (fun q => lo ≤ q) s H ∧ y_jz lo s H ∧ y_sx lo a v s H ∧ bs.length < 1000 := by
  unfold x_str at hv
  split at hv
  · rename_i n' f' hA
    cases hv
    have hlt : a < lo := by
      rcases Nat.lt_or_ge a lo with q | q
      · exact q
      · have := (V.1.2.2 a _ q hA).1
        simp [y_ord] at this
    obtain ⟨bs, v, h1, h2, h3, h4, h5, h6, h7⟩ := V.2.1.1 a _ hlt hA
    refine ⟨bs, v, h1, h2, h3, ?_, h5, h6, h7⟩
    have := (h4.1 0 (by omega)).2.2.2
    rw [h1]
    exact this
  · cases hv
theorem y_ok {w : Cond} {a' : Array Value} {U : State} (hts : ∀ w ∈ lw_tbl, y_gw w = true → w.before args s = true) (hw : w ∈ lw_tbl) (hg : y_gw w = true) (hk : (w.onTables && w.keeps) = true) (hW : s.WarmedH U.vm) : w.before a' U = true := word_at hW (Or.inl hk) (hts w hw hg)
theorem y_callF {k : Nat} {y : MethodName} {bytes : ByteArray} {maxL : Nat} {ret : Option FieldType} {a : Nat} {r : Int32} {As : List Value} {PostQ : Option Value → Prop} (C : y_C p s m args meth c mm) (V : y_V D dA lo s s.heap A H locs) (hml : ls.size = c.maxLocals)
    (hK : Jvm.Free.Back l R p e below s args y 3 (x_words rest) (fun A b => A.cells ≤ R.cells ∧ A.slots ≤ R.slots ∧ b = (Value.ref a :: As).toArray ∧ A.U.heap = H) (fun A b v B => PostQ v ∧ B.U.heap = H ∧ B.locs = A.locs ∧ B.cells = A.cells ∧ B.slots = A.slots)) (hv : ∀ v, PostQ v → v = some (.int r))
    (hlink : Cond.methodLink (y_own (t_own mm)) k y ∈ lw_tbl) (hin : Cond.instanceMethod y ∈ lw_tbl) (hse : Cond.selects "java/lang/String" y y ∈ lw_tbl) (hco : Cond.code y bytes maxL ret ∈ lw_tbl) (hy : y.cls ≠ "java/lang/invoke/MethodHandle" ∧ y.cls ≠ "java/lang/invoke/VarHandle")
    (hx : ∃ v, y_sx lo a v s H) (hlen : ∀ sig, parseMethodDescriptor y.desc = some sig → As.length = sig.parameters.length) (hd : decode (y_by mm) pc = .ok (.invokevirtual k, 3)) (hc : cells ≤ R.cells) (hs : slots ≤ R.slots)
    (kk : W p l e R s m args below meth c H locs cells slots Q (F0 m (pc + 3) ls (.int r :: rest))) : W p l e R s m args below meth c H locs cells slots Q (F0 m pc ls (As.reverse ++ .ref a :: rest)) := by
  obtain ⟨hexec, hb, -, hown, hts, -⟩ := C
  obtain ⟨v, h0, cell, kc, h1, h2, h3, h4, -⟩ := hx
  intro T hT X
  obtain ⟨v, vm₁, ⟨U', l2, c2, s2⟩, hW₁, X', ⟨hq, hH, e1, e2, e3⟩, stp⟩ := callV X hexec (C := "java/lang/String") (bytes := bytes) (maxL := maxL) (ret := ret) hown (hts _ hlink rfl) (hts _ hin rfl) (hts _ hse rfl) (hts _ hco rfl) hy hK (by rw [hT]; exact h1) h4 h2 (g := F0 m pc ls (As.reverse ++ .ref a :: rest)) rfl hml hlen (rest := rest) rfl (by show 2 * 0 + x_words rest ≤ x_words rest; omega) (by rw [hb]; exact hd) (fun vm₁ hW₁ => ⟨hc, hs, rfl, hT⟩)
  dsimp only [Jvm.Free.Pt.U, Jvm.Free.Pt.locs, Jvm.Free.Pt.cells, Jvm.Free.Pt.slots] at X' hH e1 e2 e3 stp
  subst e1; subst e2; subst e3
  cases hv v hq
  obtain ⟨t2, a1, b1⟩ := kk U' hH X'
  exact ⟨t2, stp t2 a1, b1⟩
theorem y_sl0 : Cond.instanceMethod Lib.Cold.length.x ∈ lw_tbl ∧ Cond.selects "java/lang/String" Lib.Cold.length.x Lib.Cold.length.x ∈ lw_tbl ∧ Cond.code Lib.Cold.length.x String.length.code 1 (some .int) ∈ lw_tbl := ⟨y_w 698 (by decide +kernel), y_w 699 (by decide +kernel), y_w 700 (by decide +kernel)⟩
theorem y_sl1 : Cond.methodLink "java/lang/String" 335 Lib.Cold.coder.x ∈ lw_tbl ∧ Cond.instanceMethod Lib.Cold.coder.x ∈ lw_tbl ∧ Cond.selects "java/lang/String" Lib.Cold.coder.x Lib.Cold.coder.x ∈ lw_tbl ∧ Cond.code Lib.Cold.coder.x String.coder.code 1 (some .byte) ∈ lw_tbl := ⟨y_w 701 (by decide +kernel), y_w 702 (by decide +kernel), y_w 703 (by decide +kernel), y_w 704 (by decide +kernel)⟩
theorem y_sl2 : Cond.fieldLink "java/lang/String" 38 "java/lang/String" "COMPACT_STRINGS" "Z" ∈ lw_tbl ∧ Cond.fieldLink "java/lang/String" 9 "java/lang/String" "value" "[B" ∈ lw_tbl ∧ Cond.fieldLink "java/lang/String" 15 "java/lang/String" "coder" "B" ∈ lw_tbl ∧ Cond.initialized "java/lang/String" ∈ lw_tbl := ⟨y_w 705 (by decide +kernel), y_w 1831 (by decide +kernel), y_w 1832 (by decide +kernel), y_w 19 (by decide +kernel)⟩
theorem y_slen0 {k a n : Nat} {f : Nat → Int32} (C : y_C p s m args meth c mm) (V : y_V D dA lo s s.heap A H locs) (hml : ls.size = c.maxLocals) (hj : Cond.methodLink (y_own (t_own mm)) k Lib.Cold.length.x ∈ lw_tbl) (hv : x_str A a = some (n, f)) (hd : decode (y_by mm) pc = .ok (.invokevirtual k, 3)) (hfr : 8 ≤ R.frames) (hlo : x_words rest + 100 ≤ R.locals) (hc : cells ≤ R.cells) (hs : slots ≤ R.slots)
    (kk : W p l e R s m args below meth c H locs cells slots Q (F0 m (pc + 3) ls (.int (Int32.ofNat n) :: rest))) : W p l e R s m args below meth c H locs cells slots Q (F0 m pc ls (.ref a :: rest)) := by
  have hts := C.2.2.2.2.1
  obtain ⟨bs, v, h1, h2, h3, ⟨arr, t1, t2, t3, t4, t5, t6, -⟩, ⟨z1, -⟩, hx, -⟩ := y_strAt V hv
  have ok := fun {w : Cond} (a' : Array Value) (U : State) (hw : w ∈ lw_tbl) (hg : y_gw w = true) (hk : (w.onTables && w.keeps) = true) (hW : s.WarmedH U.vm) => y_ok (a' := a') (U := U) hts hw hg hk hW
  have hK := y_freeB (l := l) (R := R) (p := p) (e := e) (below := below) (s := s) (args := args) (H := H) (y := Lib.Cold.length.x) (S := Lib.Cold.length.spec) (bytes := String.length.code) (maxL := 1) (W := x_words rest) (ret := some .int) (a0 := #[.ref a]) (Lib.Cold.length.met l a v 1 arr) rfl rfl (by show 1 + 1 ≤ _; omega) (by show _ + (1 + 11) + 24 ≤ _; omega)
    (fun U hU hW => by
      have hxU : y_sx lo a v U U.heap := by rw [hU]; exact hx.moved hW.alike
      have c1 := ok #[.ref a] U y_sl0.2.2 rfl rfl hW
      have i1 := ok #[.ref a] U y_sl2.2.2.2 rfl rfl hW
      refine ⟨?_, c1, i1⟩
      simp only [Lib.Cold.length.spec, Cond.before_and, Bool.and_eq_true]
      have d1 := ok #[.ref a] U y_sl1.2.1 rfl rfl hW
      have d2 := ok #[.ref a] U y_sl1.2.2.2 rfl rfl hW
      exact ⟨c1, rfl, hxU.exa rfl, ok _ U y_sl2.2.1 rfl rfl hW, ok _ U y_sl1.1 rfl rfl hW, y_decl d1 d2, ok _ U y_sl1.2.2.1 rfl rfl hW, d1, i1⟩)
    (fun U hU hW => by
      have hxU : y_sx lo a v U U.heap := by rw [hU]; exact hx.moved hW.alike
      refine ⟨rfl, hxU.value rfl, by rw [hU]; exact t1, State.isArrayOf_alike hW.alike t2, ?_, rfl, y_sis z1 hW.alike hU, by decide, hxU.coder rfl⟩
      simp only [Lib.Cold.coder.spec, Cond.before_and, Bool.and_eq_true]
      exact ⟨ok _ U y_sl1.2.2.2 rfl rfl hW, rfl, ok _ U y_sl2.1 rfl rfl hW, ok _ U y_sl2.2.2.1 rfl rfl hW⟩)
    (fun a st o t h => h.1)
  exact y_callF (As := []) (r := Int32.ofNat n) C V hml hK (fun w hw => by
    obtain ⟨st, t, hq⟩ := hw
    have := hq.2
    cases this
    rw [t5]) hj y_sl0.1 y_sl0.2.1 y_sl0.2.2 (by decide) ⟨v, hx⟩ (fun sig h => by rw [show parseMethodDescriptor Lib.Cold.length.x.desc = some ⟨[], some .int⟩ from by decide +kernel] at h; cases h; rfl) hd hc hs kk
theorem y_sc0 : Cond.instanceMethod Lib.Cold.charAt.x ∈ lw_tbl ∧ Cond.selects "java/lang/String" Lib.Cold.charAt.x Lib.Cold.charAt.x ∈ lw_tbl ∧ Cond.code Lib.Cold.charAt.x Lib.Str.charAt.code 2 (some .char) ∈ lw_tbl := ⟨y_w 708 (by decide +kernel), y_w 709 (by decide +kernel), y_w 710 (by decide +kernel)⟩
theorem y_sc1 : Cond.methodLink "java/lang/String" 492 Lib.Cold.isLatin1.x ∈ lw_tbl ∧ Cond.instanceMethod Lib.Cold.isLatin1.x ∈ lw_tbl ∧ Cond.selects "java/lang/String" Lib.Cold.isLatin1.x Lib.Cold.isLatin1.x ∈ lw_tbl ∧ Cond.code Lib.Cold.isLatin1.x String.isLatin1.code 1 (some .boolean) ∈ lw_tbl := ⟨y_w 711 (by decide +kernel), y_w 712 (by decide +kernel), y_w 713 (by decide +kernel), y_w 714 (by decide +kernel)⟩
theorem y_sc2 : Cond.methodLink "java/lang/String" 495 Lib.Cold.latin1.x ∈ lw_tbl ∧ Cond.static Lib.Cold.latin1.x ∈ lw_tbl ∧ Cond.code Lib.Cold.latin1.x Lib.SL1.charAt.code 2 (some .char) ∈ lw_tbl ∧ Cond.initialized "java/lang/StringLatin1" ∈ lw_tbl := ⟨y_w 715 (by decide +kernel), y_w 716 (by decide +kernel), y_w 717 (by decide +kernel), y_w 20 (by decide +kernel)⟩
theorem y_sc3 : Cond.methodLink "java/lang/StringLatin1" 9 Lib.Cold.checkIndex.x ∈ lw_tbl ∧ Cond.static Lib.Cold.checkIndex.x ∈ lw_tbl ∧ Cond.code Lib.Cold.checkIndex.x Lib.Str.checkIndex.code 2 none ∈ lw_tbl ∧ Cond.fieldLink "java/lang/String" 1053 "jdk/internal/util/Preconditions" "SIOOBE_FORMATTER" "Ljava/util/function/BiFunction;" ∈ lw_tbl := ⟨y_w 718 (by decide +kernel), y_w 719 (by decide +kernel), y_w 720 (by decide +kernel), y_w 721 (by decide +kernel)⟩
theorem y_sc4 : Cond.methodLink "java/lang/String" 1059 Lib.Cold.checkIndex.PC ∈ lw_tbl ∧ Cond.static Lib.Cold.checkIndex.PC ∈ lw_tbl ∧ Cond.code Lib.Cold.checkIndex.PC Lib.Preconditions.checkIndex.code 3 (some .int) ∈ lw_tbl ∧ Cond.initialized "jdk/internal/util/Preconditions" ∈ lw_tbl := ⟨y_w 723 (by decide +kernel), y_w 724 (by decide +kernel), y_w 725 (by decide +kernel), y_w 21 (by decide +kernel)⟩
theorem y_c7 : ∀ k : Nat, k < 128 → ((Int32.ofNat k &&& 255).toUInt32.toUInt16.toUInt32.toInt32) = Int32.ofNat k := by decide +kernel
theorem y_c7' {b : Int32} (h : 0 ≤ b ∧ b ≤ 127) : ((b &&& 255).toUInt32.toUInt16.toUInt32.toInt32) = b := by
  have h1 : (0 : Int) ≤ b.toInt := by simpa using Int32.le_iff_toInt_le.mp h.1
  have h2 : b.toInt ≤ 127 := by simpa using Int32.le_iff_toInt_le.mp h.2
  have e : b = Int32.ofNat b.toInt.toNat := by
    apply Int32.toInt_inj.mp
    rw [Int32.toInt_ofNat_of_lt (by omega)]
    omega
  rw [e]
  exact y_c7 _ (by omega)
theorem y_schr0 {k a n : Nat} {f : Nat → Int32} {i : Int32} (C : y_C p s m args meth c mm) (V : y_V D dA lo s s.heap A H locs) (hml : ls.size = c.maxLocals) (hj : Cond.methodLink (y_own (t_own mm)) k Lib.Cold.charAt.x ∈ lw_tbl) (hv : x_str A a = some (n, f)) (hi : vp_in i n) (hd : decode (y_by mm) pc = .ok (.invokevirtual k, 3)) (hfr : 8 ≤ R.frames) (hlo : x_words rest + 100 ≤ R.locals) (hc : cells ≤ R.cells) (hs : slots ≤ R.slots)
    (kk : W p l e R s m args below meth c H locs cells slots Q (F0 m (pc + 3) ls (.int (f i.toNatClampNeg) :: rest))) : W p l e R s m args below meth c H locs cells slots Q (F0 m pc ls (.int i :: .ref a :: rest)) := by
  have hts := C.2.2.2.2.1
  obtain ⟨bs, v, h1, h2, h3, ⟨arr, t1, t2, t3, t4, t5, t6, -⟩, ⟨z1, z2⟩, hx, hbl⟩ := y_strAt V hv
  have i1 : ¬ i < 0 := fun q => hi (Or.inl q)
  have i2 : i.toNatClampNeg < n := Nat.not_le.mp fun q => hi (Or.inr q)
  have hb : 0 ≤ bs.getD i.toNatClampNeg 0 ∧ bs.getD i.toNatClampNeg 0 ≤ 127 := h3 _ (by rw [List.getD_eq_getElem?_getD, List.getElem?_eq_getElem (show i.toNatClampNeg < bs.length by omega)]; exact List.getElem_mem _)
  obtain ⟨fmt, hfr1, z3⟩ : ∃ fmt : Value, fmt.isRef = true ∧ va_Z "jdk/internal/util/Preconditions" "SIOOBE_FORMATTER" "Ljava/util/function/BiFunction;" fmt (fun q => lo ≤ q) s H := by
    rcases z2 with z | ⟨t, z⟩
    · exact ⟨_, rfl, z⟩
    · exact ⟨_, rfl, z⟩
  have ok := fun {w : Cond} (a' : Array Value) (U : State) (hw : w ∈ lw_tbl) (hg : y_gw w = true) (hk : (w.onTables && w.keeps) = true) (hW : s.WarmedH U.vm) => y_ok (a' := a') (U := U) hts hw hg hk hW
  have hlt : i < Int32.ofNat n ∧ (0 : Int32) ≤ i := by
    have h0 : (0 : Int) ≤ i.toInt := by
      have : ¬ i.toInt < (0 : Int32).toInt := fun q => i1 (Int32.lt_iff_toInt_lt.mpr q)
      simpa using Int.not_lt.mp this
    have hn : (Int32.ofNat n).toInt = n := Int32.toInt_ofNat_of_lt (by omega)
    have hi' : i.toNatClampNeg = i.toInt.toNat := rfl
    exact ⟨Int32.lt_iff_toInt_lt.mpr (by rw [hn]; omega), Int32.le_iff_toInt_le.mpr (by simpa using h0)⟩
  have hK := y_freeB (l := l) (R := R) (p := p) (e := e) (below := below) (s := s) (args := args) (H := H) (y := Lib.Cold.charAt.x) (S := Lib.Cold.charAt.spec) (bytes := Lib.Str.charAt.code) (maxL := 2) (W := x_words rest) (ret := some .char) (a0 := #[.ref a, .int i]) (Lib.Cold.charAt.met l a v i (bs.getD i.toNatClampNeg 0) 1 fmt arr) rfl rfl (by show 3 + 1 ≤ _; omega) (by show _ + (2 + 11) + 72 ≤ _; omega)
    (fun U hU hW => by
      have hxU : y_sx lo a v U U.heap := by rw [hU]; exact hx.moved hW.alike
      have c1 := ok #[.ref a, .int i] U y_sc0.2.2 rfl rfl hW
      have j1 := ok #[.ref a, .int i] U y_sl2.2.2.2 rfl rfl hW
      refine ⟨?_, c1, j1⟩
      simp only [Lib.Cold.charAt.spec, Cond.before_and, Bool.and_eq_true]
      have d1 := ok #[.ref a, .int i] U y_sc1.2.1 rfl rfl hW
      have d2 := ok #[.ref a, .int i] U y_sc1.2.2.2 rfl rfl hW
      exact ⟨c1, rfl, hxU.exa rfl, ok _ U y_sc1.1 rfl rfl hW, y_decl d1 d2, ok _ U y_sc1.2.2.1 rfl rfl hW, d1, ok _ U y_sl2.2.1 rfl rfl hW, ok _ U y_sc2.1 rfl rfl hW, ok _ U y_sc2.2.1 rfl rfl hW, ok _ U y_sc2.2.2.2 rfl rfl hW, j1⟩)
    (fun U hU hW => by
      have hxU : y_sx lo a v U U.heap := by rw [hU]; exact hx.moved hW.alike
      refine ⟨rfl, hxU.value rfl, y_sig (ok #[] U y_sc2.2.2.1 rfl rfl hW), ?_, ⟨rfl, y_sis z1 hW.alike hU, by decide, hxU.coder rfl⟩, ?_, rfl, by rw [hU]; exact t1, State.isArrayOf_alike hW.alike t2, t3, ?_, t6 _ (by omega), y_sig (ok #[] U y_sc3.2.2.1 rfl rfl hW), ?_, rfl, y_sis z3 hW.alike hU, y_sig (ok #[] U y_sc4.2.2.1 rfl rfl hW), ?_⟩
      · simp only [Lib.Cold.isLatin1.spec, Cond.before_and, Bool.and_eq_true]
        exact ⟨ok _ U y_sc1.2.2.2 rfl rfl hW, rfl, ok _ U y_sl2.1 rfl rfl hW, ok _ U y_sl2.2.2.1 rfl rfl hW⟩
      · simp only [Lib.Cold.latin1.spec, Cond.before_and, Bool.and_eq_true]
        exact ⟨ok _ U y_sc2.2.2.1 rfl rfl hW, rfl, ok _ U y_sc3.1 rfl rfl hW, ok _ U y_sc3.2.1 rfl rfl hW, ok _ U y_sl2.2.2.2 rfl rfl hW⟩
      · rintro (q | q)
        · exact i1 q
        · omega
      · simp only [Lib.Cold.checkIndex.spec, Cond.before_and, Bool.and_eq_true]
        exact ⟨ok _ U y_sc3.2.2.1 rfl rfl hW, rfl, ok _ U y_sc3.2.2.2 rfl rfl hW, ok _ U y_sc4.1 rfl rfl hW, ok _ U y_sc4.2.1 rfl rfl hW, ok _ U y_sc4.2.2.2 rfl rfl hW⟩
      · simp only [Lib.Preconditions.checkIndex.spec, Cond.before_and, Bool.and_eq_true]
        refine ⟨ok _ U y_sc4.2.2.1 rfl rfl hW, rfl, rfl, rfl, ?_, ?_, ?_⟩
        · cases fmt <;> first | (cases hfr1; done) | simp [Cond.before, Cond.holds, Cond.value, Term.eval]
        · simpa [Cond.before, Cond.holds, Cond.value, Term.eval] using hlt.2
        · rw [t5]
          simpa [Cond.before, Cond.holds, Cond.value, Term.eval] using hlt.1)
    (fun a st o t h => h.1)
  refine y_callF (As := [.int i]) (r := f i.toNatClampNeg) C V hml hK (fun w hw => ?_) hj y_sc0.1 y_sc0.2.1 y_sc0.2.2 (by decide) ⟨v, hx⟩ (fun sig h => by rw [show parseMethodDescriptor Lib.Cold.charAt.x.desc = some ⟨[.int], some .char⟩ from by decide +kernel] at h; cases h; rfl) hd hc hs kk
  obtain ⟨st, t, hq⟩ := hw
  have := hq.2
  cases this
  rw [y_c7' hb, h2]
end YS

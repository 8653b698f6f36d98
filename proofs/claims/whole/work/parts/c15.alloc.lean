/-! new objects and arrays, constants, the JDK's own -/
theorem y_ac0 : Cond.arrayClass .int ∈ lw_tbl := y_w 69 (by decide +kernel)
theorem y_ac1 : Cond.arrayClass .long ∈ lw_tbl := y_w 145 (by decide +kernel)
theorem y_ac2 : Cond.arrayClass .byte ∈ lw_tbl := y_w 49 (by decide +kernel)
theorem y_ac3 : Cond.arrayClass .boolean ∈ lw_tbl := y_w 1456 (by decide +kernel)
theorem y_ao4 : Cond.arrayOver (.object "NumberSpeech$Rule") ∈ lw_tbl := y_w 57 (by decide +kernel)
theorem y_ao5 : Cond.arrayOver (.object "NumberSpeech$Book") ∈ lw_tbl := y_w 77 (by decide +kernel)
theorem y_mn0 : Cond.static Lib.Math.min.name ∈ lw_tbl ∧ Cond.initialized "java/lang/Math" ∈ lw_tbl ∧ Cond.code Lib.Math.min.name Lib.Math.min.code 2 (some .int) ∈ lw_tbl := ⟨y_w 575 (by decide +kernel), y_w 18 (by decide +kernel), y_w 576 (by decide +kernel)⟩
theorem y_mx0 : Cond.static Lib.Math.max.name ∈ lw_tbl ∧ Cond.code Lib.Math.max.name Lib.Math.max.code 2 (some .int) ∈ lw_tbl := ⟨y_w 418 (by decide +kernel), y_w 419 (by decide +kernel)⟩
theorem y_ml0 : Cond.static Lib.MathLoose.min_long.x ∈ lw_tbl ∧ Cond.code Lib.MathLoose.min_long.x Lib.MathLoose.min_long.code 4 (some .long) ∈ lw_tbl := ⟨y_w 1147 (by decide +kernel), y_w 1148 (by decide +kernel)⟩
theorem y_ay0 : Cond.native arraycopyName ∈ lw_tbl ∧ Cond.static arraycopyName ∈ lw_tbl ∧ Cond.initialized "java/lang/System" ∈ lw_tbl := ⟨y_w 552 (by decide +kernel), y_w 551 (by decide +kernel), y_w 24 (by decide +kernel)⟩
theorem y_oi0 : Cond.instanceMethod Lib.objectInit ∈ lw_tbl ∧ Cond.code Lib.objectInit ⟨#[0xb1]⟩ 1 none ∈ lw_tbl := ⟨y_w 32 (by decide +kernel), y_w 33 (by decide +kernel)⟩
section YA
variable {p : Program} {l : Launch} {e : Env} {R : Room} {s : State} {m : MethodId} {args : Array Value} {below : List Frame} {meth : Method} {c : Code} {H : Heap} {locs : List Loc} {cells slots : Nat} {Q : State → Prop}
variable {pc mm : Nat} {ls : Array Slot} {D : va_G} {dA : Nat → ClassId} {lo : Nat} {A : Hp} {rest : List Value}
theorem y_new {k ci : Nat} (C : y_C p s m args meth c mm) (V : y_V D dA lo s s.heap A H locs) (ht : t_new (t_own mm) k = some ci) (hci : ci < 13) (hd : decode (y_by mm) pc = .ok (.new k, 3)) (hc : cells + 1 ≤ R.cells) (hs : slots + t_nf.getD ci 0 ≤ R.slots)
    (kk : ∀ H1 : Heap, y_V D dA lo s s.heap (h_push A (.inr (ci, t_df.getD ci [])) (t_nf.getD ci 0)) H1 locs → W p l e R s m args below meth c H1 locs (cells + 1) (slots + t_nf.getD ci 0) Q (F0 m (pc + 3) ls (.ref A.2.1 :: rest))) : W p l e R s m args below meth c H locs cells slots Q (F0 m pc ls rest) := by
  obtain ⟨hx, hb, -, hown, hts, -⟩ := C
  have hlk : Cond.classLink (y_own (t_own mm)) k (y_own ci) ∈ lw_tbl := y_nw _ (t_find3 ht)
  obtain ⟨r, hr⟩ : ∃ r, vwCl[ci]? = some r := ⟨_, List.getElem?_eq_getElem (show ci < vwCl.length from hci)⟩
  obtain ⟨f1, f2, f3, f4, f5, f6, f7⟩ := y_clf ci r hr
  have g := y_clk ci r hr
  have hK := V.2.2.1
  have hKn := hK.1 ci r hr
  rw [f7] at hs kk
  refine W.newcK hx hb hown (by rw [f6]; exact hts _ hlk rfl) (hts _ f4 rfl) (hts _ f5 rfl) rfl hd hc hs hKn.2.1 rfl fun H1 kC hkC e1 z1 o1 => ?_
  have := kk H1 (V.push trivial trivial (⟨r, hr, (u_born (y_TY ci) (fun w hw => hts w (f1 w hw) (y_ug hw)) (fun _ h => h) hKn hkC e1 f2).to fun j hj => (g j hj).2.2.2⟩ : va_at D vwCl (H.size, .inr (ci, t_df.getD ci [])) H1) z1 o1)
  rw [← V.1.1] at this
  exact this
theorem y_byte0 : fits .byte (.int 0) = true := by decide
theorem y_newa {ty : ArrayType} {t : Nat} {n : Int32} (C : y_C p s m args meth c mm) (V : y_V D dA lo s s.heap A H locs) (ht : x_aty ty = some t) (hn : ¬ (n < 0 ∨ 1000000 < n.toNatClampNeg)) (hd : decode (y_by mm) pc = .ok (.newarray ty, 2)) (hc : cells + 1 ≤ R.cells) (hs : slots + n.toNatClampNeg ≤ R.slots)
    (kk : ∀ H1 : Heap, y_V D dA lo s s.heap (h_push A (x_arr0 t n.toNatClampNeg) n.toNatClampNeg) H1 locs → W p l e R s m args below meth c H1 locs (cells + 1) (slots + n.toNatClampNeg) Q (F0 m (pc + 2) ls (.ref A.2.1 :: rest))) : W p l e R s m args below meth c H locs cells slots Q (F0 m pc ls (.int n :: rest)) := by
  obtain ⟨hx, hb, -, hown, hts, -⟩ := C
  have hn0 : ¬ n < 0 := fun q => hn (Or.inl q)
  have hn1 : n.toNatClampNeg ≤ 1000000 := Nat.not_lt.mp fun q => hn (Or.inr q)
  have hK := V.2.2.1
  rw [← V.1.1] at kk
  cases ty with
  | int =>
    cases ht
    refine va_newaK hx hb (atype := .int) (hts _ y_ac0 rfl) rfl hd rfl hn0 rfl (show n.toNatClampNeg * 4 ≤ _ by omega) hc hs rfl fun H1 cA e1 z1 o1 _ hf => ?_
    obtain rfl : cA = dA 0 := Option.some.inj (hf.symm.trans (hK.2 0 _ rfl).2)
    exact kk H1 (V.push (by simp [x_arr0, y_ord]) (by simp [x_arr0, y_fb]) (by show H1[H.size]? = some (vp_cell (dA 0) _); rw [e1]; rfl) z1 o1)
  | long =>
    cases ht
    refine va_newaK hx hb (atype := .long) (hts _ y_ac1 rfl) rfl hd rfl hn0 rfl (show n.toNatClampNeg * 8 ≤ _ by omega) hc hs rfl fun H1 cA e1 z1 o1 _ hf => ?_
    obtain rfl : cA = dA 1 := Option.some.inj (hf.symm.trans (hK.2 1 _ rfl).2)
    exact kk H1 (V.push (by simp [x_arr0, y_ord]) (by simp [x_arr0, y_fb]) (by show H1[H.size]? = some (vp_cell (dA 1) _); rw [e1]; rfl) z1 o1)
  | byte =>
    cases ht
    refine va_newaK hx hb (atype := .byte) (hts _ y_ac2 rfl) rfl hd rfl hn0 rfl (show n.toNatClampNeg * 1 ≤ _ by omega) hc hs rfl fun H1 cA e1 z1 o1 _ hf => ?_
    obtain rfl : cA = dA 2 := Option.some.inj (hf.symm.trans (hK.2 2 _ rfl).2)
    exact kk H1 (V.push (by simp [x_arr0, y_ord]) (by simp only [x_arr0]; exact fun _ => y_byte0) (by show H1[H.size]? = some (vp_cell (dA 2) _); rw [e1]; rfl) z1 o1)
  | boolean =>
    cases ht
    refine va_newaK hx hb (atype := .boolean) (hts _ y_ac3 rfl) rfl hd rfl hn0 rfl (show n.toNatClampNeg * 1 ≤ _ by omega) hc hs rfl fun H1 cA e1 z1 o1 _ hf => ?_
    obtain rfl : cA = dA 3 := Option.some.inj (hf.symm.trans (hK.2 3 _ rfl).2)
    exact kk H1 (V.push (by simp [x_arr0, y_ord]) (by simp [x_arr0, y_fb]) (by show H1[H.size]? = some (vp_cell (dA 3) _); rw [e1]; rfl) z1 o1)
  | _ => cases ht
theorem y_anew {k ci t : Nat} {C0 : String} {n : Int32} (C : y_C p s m args meth c mm) (V : y_V D dA lo s s.heap A H locs) (ht : t_new (t_own mm) k = some ci) (hC0 : y_own ci = C0) (ho : Cond.arrayOver (.object C0) ∈ lw_tbl) (hty : ∀ dA, (y_tys dA)[t]? = some (dA t, .object C0)) (h4 : 4 ≤ t) (h11 : t < 11) (hn : ¬ (n < 0 ∨ 1000000 < n.toNatClampNeg)) (hd : decode (y_by mm) pc = .ok (.anewarray k, 3)) (hc : cells + 1 ≤ R.cells) (hs : slots + n.toNatClampNeg ≤ R.slots)
    (kk : ∀ H1 : Heap, y_V D dA lo s s.heap (h_push A (x_arr0 t n.toNatClampNeg) n.toNatClampNeg) H1 locs → W p l e R s m args below meth c H1 locs (cells + 1) (slots + n.toNatClampNeg) Q (F0 m (pc + 3) ls (.ref A.2.1 :: rest))) : W p l e R s m args below meth c H locs cells slots Q (F0 m pc ls (.int n :: rest)) := by
  obtain ⟨hx, hb, -, hown, hts, -⟩ := C
  have hlk : Cond.classLink (y_own (t_own mm)) k (y_own ci) ∈ lw_tbl := y_nw _ (t_find3 ht)
  rw [hC0] at hlk
  have hn0 : ¬ n < 0 := fun q => hn (Or.inl q)
  have hn1 : n.toNatClampNeg ≤ 1000000 := Nat.not_lt.mp fun q => hn (Or.inr q)
  rw [← V.1.1] at kk
  refine W.anew hx hb hown (hts _ hlk rfl) (hts _ ho rfl) rfl hd rfl hn0 (by omega) hc hs fun cA kA comp f1 f2 f3 f4 => ?_
  obtain ⟨kA', comp', -, -, -, k4⟩ := (V.2.2.1.2 t _ (hty dA)).2
  obtain rfl : cA = dA t := Option.some.inj (f1.symm.trans k4)
  generalize hH1 : H.push ({ cls := dA t, slots := Array.replicate n.toNatClampNeg .null, vm := .none } : Cell) = H1
  have z1 : H1.size = H.size + 1 := by rw [← hH1, Array.size_push]
  have e1 : H1[H.size]? = some (arrV (dA t) n.toNatClampNeg (fun _ => .null)) := by rw [← hH1, Array.getElem?_push_size, ← arrV_new]
  have o1 : ∀ q : Nat, q < H.size → H1[q]? = H[q]? := fun q hq => by rw [← hH1, Array.getElem?_push, if_neg (Nat.ne_of_lt hq)]
  have ex : x_arr0 t n.toNatClampNeg = .inl (t, n.toNatClampNeg, .inr (.inr (.inr (.inr (fun _ => none))))) := by
    unfold x_arr0
    rw [if_neg (by omega), if_pos h4]
  refine kk H1 (V.push (by rw [ex]; simpa [y_ord] using h11) (by rw [ex]; simp [y_fb]) ?_ z1 o1)
  rw [ex]
  show H1[H.size]? = some (vp_cell (dA t) _)
  rw [e1, vp_cell_q]
  rfl
theorem y_castA {k t a n : Nat} {x : Sum (Nat → Int32) (Sum (Nat → Int64) (Sum (Nat → UInt32) (Sum (Nat → UInt64) (Nat → Option Nat))))} (C : y_C p s m args meth c mm) (V : y_V D dA lo s s.heap A H locs) (ht : t_mul (t_own mm) k = some t) (h01 : t = 0 ∨ t = 1) (hA : A.1 a = some (.inl (t, n, x))) (hd : decode (y_by mm) pc = .ok (.checkcast k, 3))
    (kk : W p l e R s m args below meth c H locs cells slots Q (F0 m (pc + 3) ls (.ref a :: rest))) : W p l e R s m args below meth c H locs cells slots Q (F0 m pc ls (.ref a :: rest)) := by
  obtain ⟨hx, hb, -, hown, hts, -⟩ := C
  have hlk : Cond.classLink (y_own (t_own mm)) k (y_mun t) ∈ lw_tbl := y_mu _ (t_find3 ht)
  rcases h01 with rfl | rfl
  · exact va_castA hx hb hown (hts _ hlk rfl) (V.P hA (by simp [y_ord])) 0 rfl (V.2.2.1.2 0 _ rfl).2 hd kk
  · exact va_castA hx hb hown (hts _ hlk rfl) (V.P hA (by simp [y_ord])) 0 rfl (V.2.2.1.2 1 _ rfl).2 hd kk
theorem t_str_i {o i j : Nat} (h : t_str o i = some j) : ∃ cs, t_sr[j]? = some (o, i, cs) := by
  unfold t_str at h
  rw [List.findIdx?_eq_some_iff_getElem] at h
  obtain ⟨hj, h1, -⟩ := h
  simp only [Bool.and_eq_true, beq_iff_eq] at h1
  refine ⟨t_sr[j].2.2, ?_⟩
  rw [List.getElem?_eq_getElem hj]
  obtain ⟨h2, h3⟩ := h1
  rw [← h2, ← h3]
theorem y_ldc {k : Nat} {i : Instr} {st' : List Value} {A' : Hp} (C : y_C p s m args meth c mm) (V : y_V D dA lo s s.heap A H locs) (hi : i = .ldc k ∨ i = .ldc_w k ∨ i = .ldc2_w k) (h : x_mem mm i rest A = some (st', A')) (hd : decode (y_by mm) pc = .ok (i, x_len i))
    (kk : A' = A → W p l e R s m args below meth c H locs cells slots Q (F0 m (pc + x_len i) ls st')) : W p l e R s m args below meth c H locs cells slots Q (F0 m pc ls rest) := by
  obtain ⟨hx, hb, -, hown, hts, -⟩ := C
  rcases hi with rfl | rfl | rfl
  · unfold x_mem at h
    dsimp only at h
    split at h
    · rename_i v hv
      cases h
      exact lv_ldc hx hb hown (hts _ (y_ci _ (t_find3 hv)) rfl) hd (kk rfl)
    · rename_i j h0 hj
      cases h
      obtain ⟨cs, hcs⟩ := t_str_i hj
      exact va_ldcS hx hb hown (V.2.1.2.1 _ _ _ _ hcs) hd (kk rfl)
    · cases h
  · unfold x_mem at h
    dsimp only at h
    split at h
    · rename_i v hv
      cases h
      exact lv_ldcw hx hb hown (hts _ (y_ci _ (t_find3 hv)) rfl) hd (kk rfl)
    · cases h
  · unfold x_mem at h
    dsimp only at h
    split at h
    · rename_i v hv
      cases h
      exact lv_ldc2 hx hb hown (hts _ (y_cj _ (t_find3 hv)) rfl) hd (kk rfl)
    · cases h
theorem y_nn32 {z : Int32} (hz : ¬ z < 0) : z.toInt = (z.toNatClampNeg : Int) := by
  have hz0 : (0 : Int) ≤ z.toInt := by
    have := Int32.not_lt.mp hz
    simpa using Int32.le_iff_toInt_le.mp this
  show z.toInt = ((z.toInt.toNat : Nat) : Int)
  omega
/-- arraycopy between two rows of one kind -/
theorem y_copy {α : Type} (mk : α → Value) (hmk : ∀ z, (mk z).isRef = false) {own : String} {index : Nat} (C : y_C p s m args meth c mm) (hown : own = y_own (t_own mm)) (hml : ls.size = c.maxLocals) (hlink : Cond.methodLink own index arraycopyName ∈ lw_tbl)
    {a0 a t0 t1 n0 n1 : Nat} {f g : Nat → α} {ty : FieldType} (hc0 : H[a0]? = some (arrV (dA t0) n0 (fun j => mk (f j)))) (hc1 : H[a]? = some (arrV (dA t1) n1 (fun j => mk (g j)))) (hK : va_K D vwCl (y_tys dA) s) (ht0 : (y_tys dA)[t0]? = some (dA t0, ty)) (ht1 : (y_tys dA)[t1]? = some (dA t1, ty)) (hprim : refKind ty = false)
    {sp dp n : Int32} (h1 : ¬ sp < 0) (h2 : ¬ dp < 0) (h3 : ¬ n < 0) (h4 : sp.toNatClampNeg + n.toNatClampNeg ≤ n0) (h5 : dp.toNatClampNeg + n.toNatClampNeg ≤ n1) (hfit : ∀ i, i < n.toNatClampNeg → fits ty (mk (f (sp.toNatClampNeg + i))) = true)
    (hframes : 1 ≤ R.frames) (hlocals : x_words rest + 100 ≤ R.locals) (hdg : decode (y_by mm) pc = .ok (.invokestatic index, 3))
    (kk : ∀ H1 : Heap, H1[a]? = some (arrV (dA t1) n1 (fun j => mk (va_cpy f g sp.toNatClampNeg dp.toNatClampNeg n.toNatClampNeg j))) → H1.size = H.size → (∀ q : Nat, q ≠ a → H1[q]? = H[q]?) → ∀ locs1 : List Loc, (∀ z ∈ locs1, z ∈ locs ∨ z.base = a) → W p l e R s m args below meth c H1 locs1 cells slots Q (F0 m (pc + 3) ls rest)) : W p l e R s m args below meth c H locs cells slots Q (F0 m pc ls (.int n :: .int dp :: .ref a :: .int sp :: .ref a0 :: rest)) := by
  obtain ⟨hx, hb, -, hown2, hts, -⟩ := C
  rw [← hown] at hown2
  intro T hT X
  obtain ⟨-, k0, hk0, cm0, hkk0⟩ := (hK.2 t0 _ ht0).1 n0 (fun j => mk (f j))
  obtain ⟨-, k1, hk1, cm1, hkk1⟩ := (hK.2 t1 _ ht1).1 n1 (fun j => mk (g j))
  obtain ⟨vm', X', step⟩ := X.arraycopy hx hown2 (hts _ hlink rfl) (hts _ y_ay0.1 rfl) (hts _ y_ay0.2.1 rfl) (hts _ y_ay0.2.2 rfl) (src := a0) (dst := a) (cs := arrV (dA t0) n0 (fun j => mk (f j))) (cd := arrV (dA t1) n1 (fun j => mk (g j))) (srcPos := sp) (destPos := dp) (n := n) (by rw [hT]; exact hc0) (by rw [hT]; exact hc1)
    (fun _ h => by cases h) (fun _ h => by cases h) (fun h => by cases h) (fun h => by cases h) hk0 hk1 hkk0 hkk1 (by simp [hprim]) h1 h2 h3
    (by rw [y_nn32 h1, y_nn32 h3, arrV_size]; omega)
    (by rw [y_nn32 h2, y_nn32 h3, arrV_size]; omega)
    (fun vm₁ _ i hi => by
      have e : (arrV (dA t0) n0 (fun j => mk (f j))).slots.getD (sp.toNatClampNeg + i) .null = mk (f (sp.toNatClampNeg + i)) := by
        rw [Array.getD_eq_getD_getElem?, arrV_read _ _ (by omega)]
        rfl
      refine ⟨?_, ?_⟩
      · rw [e]
        exact hfit i hi
      · rw [e]
        have := hmk (f (sp.toNatClampNeg + i))
        generalize mk (f (sp.toNatClampNeg + i)) = w at this
        cases w <;> first | trivial | cases this)
    (g := F0 m pc ls (.int n :: .int dp :: .ref a :: .int sp :: .ref a0 :: rest)) rfl (by rw [← hml]) (rest := rest) rfl (by rw [hb]; exact hdg) hframes (by show 2 * 0 + _ + _ ≤ _; have : nativeFrameWords "java/lang/System" "arraycopy" 5 ≤ 60 := (by decide); unfold x_words at hlocals; omega)
  have e1 : copied (arrV (dA t0) n0 (fun j => mk (f j))) (arrV (dA t1) n1 (fun j => mk (g j))) sp dp n = arrV (dA t1) n1 (fun j => mk (va_cpy f g sp.toNatClampNeg dp.toNatClampNeg n.toNatClampNeg j)) := va_copied mk (dA t0) (dA t1) f g h4
  rw [e1] at X' step
  have hl : a < H.size := (Array.getElem?_eq_some_iff.mp hc1).1
  obtain ⟨t, a1, b1⟩ := kk (H.setIfInBounds a (arrV (dA t1) n1 (fun j => mk (va_cpy f g sp.toNatClampNeg dp.toNatClampNeg n.toNatClampNeg j)))) (by simp [Array.getElem?_setIfInBounds, hl]) (by simp) (fun q hq => by simp [Array.getElem?_setIfInBounds, Ne.symm hq]) _ (fun z hz => by
      rcases List.mem_append.mp hz with h | h
      · exact Or.inl h
      · obtain ⟨w, -, hw⟩ := List.mem_map.mp h
        rw [← hw]
        exact Or.inr rfl) _ (by rw [← hT]; rfl) X'
  exact ⟨t, step t a1, b1⟩
theorem y_V.sets {H1 : Heap} {locs1 : List Loc} (V : y_V D dA lo s s.heap A H locs) {a : Nat} {e0 e1 : CE} (he0 : A.1 a = some e0) (ho0 : y_ord e0) (ho : y_ord e1) (hf : y_fb e1) (hat : va_at D vwCl (a, y_E dA e1) H1) (hz : H1.size = H.size) (oq : ∀ q : Nat, q ≠ a → H1[q]? = H[q]?) (hl : ∀ z ∈ locs1, z ∈ locs ∨ z.base = a) : y_V D dA lo s s.heap (h_set A a e1) H1 locs1 := by
  have h := V.set (k := 0) he0 ho0 ho hf hat hz oq
  refine ⟨h.1, h.2.1, h.2.2.1, h.2.2.2.1, h.2.2.2.2.1, fun z hz => ?_⟩
  rcases hl z hz with q | q
  · exact V.2.2.2.2.2 z q
  · rw [q]; exact V.lo he0 ho0
end YA

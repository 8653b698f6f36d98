/-! the plain machine's cells in the machine's heap -/
def y_E (dA : Nat → ClassId) (e : CE) : va_E := match e with
  | .inl z => .inl (dA z.1, z.2)
  | .inr o => .inr o
def y_tys (dA : Nat → ClassId) : List (ClassId × FieldType) := [(dA 0, .int), (dA 1, .long), (dA 2, .byte), (dA 3, .boolean), (dA 4, .object "NumberSpeech$Rule"), (dA 5, .object "NumberSpeech$Book"), (dA 6, .array .int), (dA 7, .array (.array .int)), (dA 8, .array .byte), (dA 9, .array (.array .byte)), (dA 10, .array (.array (.array .byte)))]
def y_ord (e : CE) : Prop := match e with
  | .inl z => z.1 < 11
  | .inr _ => True
def y_fb (e : CE) : Prop := match e with
  | .inl (2, _, .inl f) => ∀ j, fits .byte (.int (f j)) = true
  | _ => True
def y_O (D : va_G) (dA : Nat → ClassId) (lo : Nat) (A : Hp) (H : Heap) : Prop := H.size = A.2.1 ∧ lo ≤ H.size ∧ ∀ (a : Nat) (e : CE), lo ≤ a → A.1 a = some e → y_ord e ∧ y_fb e ∧ va_at D vwCl (a, y_E dA e) H
/-- what lies there from before: the script, the strings -/
def y_jz (lo : Nat) (U : State) (H : Heap) : Prop := va_Z "java/lang/String" "COMPACT_STRINGS" "Z" (.int 1) (fun q => lo ≤ q) U H ∧ va_Zq "jdk/internal/util/Preconditions" "SIOOBE_FORMATTER" "Ljava/util/function/BiFunction;" (fun q => lo ≤ q) U H
/-- a text's own cell, all that the JDK asks of it -/
def y_sx (lo a v : Nat) (U : State) (H : Heap) : Prop := a < lo ∧ ∃ (cell : Cell) (k : Class), H[a]? = some cell ∧ U.vm.findClass "java/lang/String" = some cell.cls ∧ U.vm.classes[cell.cls]? = some k ∧ cell.vm.isStatics = false ∧ cell.vm ≠ .unknown ∧ (k.kind = .ordinary → cell.slots.size = k.instanceTypes.size) ∧
  (∃ (cf : ClassId) (k2 : Class) (i : Nat) (f : Field), U.fieldFound? "java/lang/String" "coder" "B" = some (cf, k2, i, f) ∧ f.isStatic = false ∧ U.vm.assignable cell.cls cf = true ∧ cell.slots[f.slot]? = some (.int 0)) ∧
  (∃ (cf : ClassId) (k2 : Class) (i : Nat) (f : Field), U.fieldFound? "java/lang/String" "value" "[B" = some (cf, k2, i, f) ∧ f.isStatic = false ∧ U.vm.assignable cell.cls cf = true ∧ cell.slots[f.slot]? = some (.ref v))
theorem y_sx.kept {lo a v : Nat} {U : State} {H H1 : Heap} (h : y_sx lo a v U H) (hq : ∀ q : Nat, q < lo → H1[q]? = H[q]?) : y_sx lo a v U H1 := by
  obtain ⟨h0, cell, k, h1, h2⟩ := h
  exact ⟨h0, cell, k, (hq a h0).trans h1, h2⟩
theorem y_sx.moved {lo a v : Nat} {u U : State} {H : Heap} (hvm : u.vm.Alike U.vm) (h : y_sx lo a v u H) : y_sx lo a v U H := by
  obtain ⟨h0, cell, k, h1, h2, h3, h4, h5, h6, ⟨cf, k2, i, f, g1, g2, g3, g4⟩, ⟨cf', k2', i', f', g1', g2', g3', g4'⟩⟩ := h
  obtain ⟨k', hk', he⟩ := hvm.2.2 _ _ h3
  obtain ⟨q, hq, -⟩ := State.fieldFound?_setVm hvm g1
  obtain ⟨q', hq', -⟩ := State.fieldFound?_setVm hvm g1'
  exact ⟨h0, cell, k', h1, by rw [hvm.findClass]; exact h2, hk', h4, h5, by rw [he]; exact h6, ⟨cf, q, i, f, hq, g2, by rw [hvm.assignable]; exact g3, g4⟩, ⟨cf', q', i', f', hq', g2', by rw [hvm.assignable]; exact g3', g4'⟩⟩
def y_spc (lo : Nat) (U : State) (a : Nat) (e : CE) (H : Heap) : Prop := match e with
  | .inl (98, n, .inl f) => va_X a n f U H
  | .inl (99, n, .inl f) => ∃ (bs : List Int32) (v : Nat), n = bs.length ∧ f = (fun j => bs.getD j 0) ∧ (∀ b ∈ bs, 0 ≤ b ∧ b ≤ 127) ∧ vk_S 1 [bs.length] [bs] (fun _ => a) (fun _ => v) (fun q => lo ≤ q) U H ∧ y_jz lo U H ∧ y_sx lo a v U H ∧ bs.length < 1000
  | _ => False
def y_sp (lo : Nat) (U : State) (A : Hp) (H : Heap) : Prop :=
  (∀ (a : Nat) (e : CE), a < lo → A.1 a = some e → y_spc lo U a e H) ∧
  (∀ (j o i : Nat) (cs : List Nat), t_sr[j]? = some (o, i, cs) → vk_R (y_own o) i (y_txt j) (A.2.2.2 j) U) ∧
  vx_Zq Bundle.tN "UNASSIGNED_STACK" Bundle.steD (fun q => lo ≤ q) U H ∧ vx_Zq Bundle.tN "SUPPRESSED_SENTINEL" Bundle.listD (fun q => lo ≤ q) U H
def y_Sm (lo : Nat) (A A' : Hp) : Prop := A'.2.2.2 = A.2.2.2 ∧ ∀ a : Nat, a < lo → A'.1 a = A.1 a
def y_V (D : va_G) (dA : Nat → ClassId) (lo : Nat) (U : State) (H0 : Heap) (A : Hp) (H : Heap) (locs : List Loc) : Prop := y_O D dA lo A H ∧ y_sp lo U A H ∧ va_K D vwCl (y_tys dA) U ∧ va_S (fun q => lo ≤ q) H0 H locs
theorem y_spc.kept {lo : Nat} {U : State} {a : Nat} {e : CE} {H H1 : Heap} (h : y_spc lo U a e H) (ha : a < lo) (hz : lo ≤ H.size) (hq : ∀ q : Nat, q < lo → H1[q]? = H[q]?) : y_spc lo U a e H1 := by
  unfold y_spc at h ⊢
  split at h
  · exact h.kept (hq a ha)
  · obtain ⟨bs, v, h1, h2, h3, h4, ⟨h5, h6⟩, h7, h8⟩ := h
    exact ⟨bs, v, h1, h2, h3, h4.kept fun q _ hn => hq q (Nat.not_le.mp hn), ⟨h5.kept fun q _ hn => hq q (Nat.not_le.mp hn), h6.kept fun q _ hn => hq q (Nat.not_le.mp hn)⟩, h7.kept hq, h8⟩
  · exact absurd h id
theorem y_spc.ord {lo : Nat} {U : State} {a : Nat} {e : CE} {H : Heap} (h : y_spc lo U a e H) : ¬ y_ord e := by
  unfold y_spc at h
  split at h
  · simp [y_ord]
  · simp [y_ord]
  · exact absurd h id
theorem y_sp.kept {lo : Nat} {U : State} {A A1 : Hp} {H H1 : Heap} (h : y_sp lo U A H) (hz : lo ≤ H.size) (hm : y_Sm lo A A1) (hq : ∀ q : Nat, q < lo → H1[q]? = H[q]?) : y_sp lo U A1 H1 := by
  obtain ⟨h1, h2, h3, h4⟩ := h
  refine ⟨fun a e ha he => ?_, fun j o i cs hj => ?_, h3.kept fun q _ hn => hq q (Nat.not_le.mp hn), h4.kept fun q _ hn => hq q (Nat.not_le.mp hn)⟩
  · rw [hm.2 a ha] at he
    exact (h1 a e ha he).kept ha hz hq
  · rw [hm.1]
    exact h2 j o i cs hj
theorem y_Sm.rf {lo : Nat} {A : Hp} : y_Sm lo A A := ⟨rfl, fun _ _ => rfl⟩
theorem y_Sm.tr {lo : Nat} {A B C : Hp} (h : y_Sm lo A B) (h2 : y_Sm lo B C) : y_Sm lo A C := ⟨h2.1.trans h.1, fun a ha => (h2.2 a ha).trans (h.2 a ha)⟩
theorem y_V.lo {D : va_G} {dA : Nat → ClassId} {lo : Nat} {U : State} {H0 : Heap} {A : Hp} {H : Heap} {locs : List Loc} (h : y_V D dA lo U H0 A H locs) {a : Nat} {e : CE} (he : A.1 a = some e) (ho : y_ord e) : lo ≤ a := by
  rcases Nat.lt_or_ge a lo with q | q
  · exact absurd ho (h.2.1.1 a e q he).ord
  · exact q
theorem y_V.at {D : va_G} {dA : Nat → ClassId} {lo : Nat} {U : State} {H0 : Heap} {A : Hp} {H : Heap} {locs : List Loc} (h : y_V D dA lo U H0 A H locs) {a : Nat} {e : CE} (he : A.1 a = some e) (ho : y_ord e) : va_at D vwCl (a, y_E dA e) H := (h.1.2.2 a e (h.lo he ho) he).2.2
/-- the cell alone, as a world -/
theorem y_V.P {D : va_G} {dA : Nat → ClassId} {lo : Nat} {U : State} {H0 : Heap} {A : Hp} {H : Heap} {locs : List Loc} (h : y_V D dA lo U H0 A H locs) {a : Nat} {e : CE} (he : A.1 a = some e) (ho : y_ord e) : va_P D vwCl [(a, y_E dA e)] H := by
  intro k q hk
  have hz : k < 1 := (List.getElem?_eq_some_iff.mp hk).1
  rw [show k = 0 by omega] at hk
  cases hk
  exact h.at he ho
theorem y_V.set {D : va_G} {dA : Nat → ClassId} {lo : Nat} {U : State} {H0 : Heap} {A : Hp} {H H1 : Heap} {locs : List Loc} (h : y_V D dA lo U H0 A H locs) {a k : Nat} {e0 e : CE} (he0 : A.1 a = some e0) (ho0 : y_ord e0) (ho : y_ord e) (hf : y_fb e) (hat : va_at D vwCl (a, y_E dA e) H1) (hz : H1.size = H.size) (oq : ∀ q : Nat, q ≠ a → H1[q]? = H[q]?) : y_V D dA lo U H0 (h_set A a e) H1 (locs ++ [⟨a, k⟩]) := by
  have hla := h.lo he0 ho0
  have hm : y_Sm lo A (h_set A a e) := ⟨rfl, fun b hb => by show (if b = a then some e else A.1 b) = A.1 b; rw [if_neg (by omega)]⟩
  refine ⟨⟨hz.trans h.1.1, by rw [hz]; exact h.1.2.1, fun b e' hb he' => ?_⟩, h.2.1.kept h.1.2.1 hm fun q hq => oq q (by omega), h.2.2.1, h.2.2.2.put hz oq hla⟩
  have he' : (if b = a then some e else A.1 b) = some e' := he'
  by_cases eb : b = a
  · subst eb
    rw [if_pos rfl] at he'
    cases he'
    exact ⟨ho, hf, hat⟩
  · rw [if_neg eb] at he'
    obtain ⟨h1, h2, h3⟩ := h.1.2.2 b e' hb he'
    exact ⟨h1, h2, h3.kept (oq b eb)⟩
theorem y_V.push {D : va_G} {dA : Nat → ClassId} {lo : Nat} {U : State} {H0 : Heap} {A : Hp} {H H1 : Heap} {locs : List Loc} (h : y_V D dA lo U H0 A H locs) {n : Nat} {e : CE} (ho : y_ord e) (hf : y_fb e) (hat : va_at D vwCl (H.size, y_E dA e) H1) (hz : H1.size = H.size + 1) (oq : ∀ q : Nat, q < H.size → H1[q]? = H[q]?) : y_V D dA lo U H0 (h_push A e n) H1 locs := by
  have hs := h.1.1
  have hlo := h.1.2.1
  have hm : y_Sm lo A (h_push A e n) := ⟨rfl, fun b hb => by show (if b = A.2.1 then some e else A.1 b) = A.1 b; rw [if_neg (by omega)]⟩
  refine ⟨⟨by rw [hz, hs]; rfl, by omega, fun b e' hb he' => ?_⟩, h.2.1.kept hlo hm fun q hq => oq q (by omega), h.2.2.1, ⟨Nat.le_trans h.2.2.2.1 (by omega), fun q h1 h2 => (oq q (Nat.lt_of_lt_of_le h1 h.2.2.2.1)).trans (h.2.2.2.2.1 q h1 h2), h.2.2.2.2.2⟩⟩
  have he' : (if b = A.2.1 then some e else A.1 b) = some e' := he'
  by_cases eb : b = A.2.1
  · subst eb
    rw [if_pos rfl] at he'
    cases he'
    rw [← hs]
    exact ⟨ho, hf, hat⟩
  · rw [if_neg eb] at he'
    obtain ⟨h1, h2, h3⟩ := h.1.2.2 b e' hb he'
    exact ⟨h1, h2, h3.kept (oq b h3.lt)⟩
theorem y_V.lost {D : va_G} {dA : Nat → ClassId} {lo : Nat} {U : State} {H0 : Heap} {A : Hp} {H H1 : Heap} {locs : List Loc} (h : y_V D dA lo U H0 A H locs) {n : Nat} (hz : H1.size = H.size + 1) (oq : ∀ q : Nat, q < H.size → H1[q]? = H[q]?) : y_V D dA lo U H0 (h_lost A n) H1 locs := by
  have hs := h.1.1
  have hlo := h.1.2.1
  refine ⟨⟨by rw [hz, hs]; rfl, by omega, fun b e' hb he' => ?_⟩, h.2.1.kept hlo ⟨rfl, fun _ _ => rfl⟩ fun q hq => oq q (by omega), h.2.2.1, ⟨Nat.le_trans h.2.2.2.1 (by omega), fun q h1 h2 => (oq q (Nat.lt_of_lt_of_le h1 h.2.2.2.1)).trans (h.2.2.2.2.1 q h1 h2), h.2.2.2.2.2⟩⟩
  obtain ⟨h1, h2, h3⟩ := h.1.2.2 b e' hb he'
  exact ⟨h1, h2, h3.kept (oq b h3.lt)⟩
theorem x_in_i {i : Int32} {n : Nat} (h : x_in i n = true) : vp_in i n := by
  unfold x_in at h
  rw [Bool.and_eq_true, Bool.not_eq_true', decide_eq_false_iff_not, decide_eq_true_eq] at h
  exact fun q => q.elim h.1 (fun q => absurd h.2 (by omega))
/-- the tables' words that hold in every method -/
def y_g2 (w : Cond) : Bool := match w with
  | .methodLinkNest _ _ _ _ => true
  | .fieldLinkNest _ _ _ _ _ _ => true
  | .castable _ _ => true
  | .declares _ => true
  | .arrayOver (.object _) => true
  | .arrayOver (.array _) => true
  | _ => false
def y_gw (w : Cond) : Bool := goodWord w || y_g2 w
theorem y_ug {C : String} {T : u_T} {N : Nat} {w : Cond} (h : w ∈ u_ws C T N) : y_gw w = true := by
  obtain ⟨k, -, rfl⟩ := List.mem_map.mp h
  unfold u_lay
  split <;> rfl
def y_C (p : Program) (s : State) (m : MethodId) (args : Array Value) (meth : Method) (c : Code) (mm : Nat) : Prop := p.tables.exec = Jvm.exec ∧ c.code = y_by mm ∧ c.maxLocals = t_maxl mm ∧ s.vm.findClass (y_own (t_own mm)) = some m.cls ∧ (∀ w ∈ lw_tbl, y_gw w = true → w.before args s = true) ∧ meth.locks = false ∧ meth.sig.returnType = y_rt mm ∧ (t_isi mm = true → meth.name = "<init>")
/-- the classes' tables -/
def y_TY (ci k : Nat) : FieldType := match ci with
  | 0 => tyX0 k | 1 => tyX1 k | 2 => tyX2 k | 3 => tyX3 k | 4 => tyX4 k | 5 => tyX5 k | 6 => tyX6 k | 7 => tyX7 k | 8 => tyX8 k | 9 => tyX9 k | 10 => tyX10 k | 11 => tyX11 k | _ => tyX12 k
theorem y_cl_all {P : Nat → vw_C → Prop} (h0 : P 0 (RX0, TX0, 3)) (h1 : P 1 (RX1, TX1, 5)) (h2 : P 2 (RX2, TX2, 9)) (h3 : P 3 (RX3, TX3, 3)) (h4 : P 4 (RX4, TX4, 5)) (h5 : P 5 (RX5, TX5, 11)) (h6 : P 6 (RX6, TX6, 7)) (h7 : P 7 (RX7, TX7, 2)) (h8 : P 8 (RX8, TX8, 14)) (h9 : P 9 (RX9, TX9, 11)) (h10 : P 10 (RX10, TX10, 5)) (h11 : P 11 (RX11, TX11, 13)) (h12 : P 12 (RX12, TX12, 50)) : ∀ (ci : Nat) (r : vw_C), vwCl[ci]? = some r → P ci r := by
  intro ci r h
  match ci, h with
  | 0, h => cases h; exact h0
  | 1, h => cases h; exact h1
  | 2, h => cases h; exact h2
  | 3, h => cases h; exact h3
  | 4, h => cases h; exact h4
  | 5, h => cases h; exact h5
  | 6, h => cases h; exact h6
  | 7, h => cases h; exact h7
  | 8, h => cases h; exact h8
  | 9, h => cases h; exact h9
  | 10, h => cases h; exact h10
  | 11, h => cases h; exact h11
  | 12, h => cases h; exact h12
  | k + 13, h => simp [vwCl] at h
/-- of each class: its fields' words, types, names; that it can be made -/
theorem y_clf : ∀ (ci : Nat) (r : vw_C), vwCl[ci]? = some r → (∀ w ∈ u_ws r.1 r.2.1 r.2.2, w ∈ lw_tbl) ∧ (∀ k, k < r.2.2 → parseFieldDescriptor (r.2.1 k).2.2.1 = some (y_TY ci k)) ∧ (∀ a, a < r.2.2 → ∀ b, b < r.2.2 → a ≠ b → (r.2.1 a).2.1 ≠ (r.2.1 b).2.1) ∧ Cond.instantiable r.1 r.2.2 ∈ lw_tbl ∧ Cond.initialized r.1 ∈ lw_tbl ∧ r.1 = y_own ci ∧ t_nf.getD ci 0 = r.2.2 :=
  y_cl_all ⟨inX0, tyX0_ok, nmX0, y_in_0, y_ini_0, rfl, rfl⟩ ⟨inX1, tyX1_ok, nmX1, y_in_1, y_ini_1, rfl, rfl⟩ ⟨inX2, tyX2_ok, nmX2, y_in_2, y_ini_2, rfl, rfl⟩ ⟨inX3, tyX3_ok, nmX3, y_in_3, y_ini_3, rfl, rfl⟩ ⟨inX4, tyX4_ok, nmX4, y_in_4, y_ini_4, rfl, rfl⟩ ⟨inX5, tyX5_ok, nmX5, y_in_5, y_ini_5, rfl, rfl⟩ ⟨inX6, tyX6_ok, nmX6, y_in_6, y_ini_6, rfl, rfl⟩ ⟨inX7, tyX7_ok, nmX7, y_in_7, y_ini_7, rfl, rfl⟩ ⟨inX8, tyX8_ok, nmX8, y_in_8, y_ini_8, rfl, rfl⟩ ⟨inX9, tyX9_ok, nmX9, y_in_9, y_ini_9, rfl, rfl⟩ ⟨inX10, tyX10_ok, nmX10, y_in_10, y_ini_10, rfl, rfl⟩ ⟨inX11, tyX11_ok, nmX11, y_in_11, y_ini_11, rfl, rfl⟩ ⟨inX12, tyX12_ok, nmX12, y_in_12, y_ini_12, rfl, rfl⟩
/-- of each field: final as the tables of the plain machine have it, its kind, its default, its declarer -/
def y_kd (t : FieldType) : Nat := match t with
  | .int => 0
  | .boolean => 1
  | .long => 3
  | .object _ => 2
  | .array _ => 2
  | _ => 9
theorem y_clk : ∀ (ci : Nat) (r : vw_C), vwCl[ci]? = some r → ∀ k, k < r.2.2 → (r.2.1 k).2.2.2 = t_fin ci k ∧ (r.2.1 k).1 = y_own ci ∧ y_kd (y_TY ci k) = t_ft ci k ∧ defaultValue (y_TY ci k) = vp_V (t_df.getD ci []) k :=
  y_cl_all (by decide +kernel) (by decide +kernel) (by decide +kernel) (by decide +kernel) (by decide +kernel) (by decide +kernel) (by decide +kernel) (by decide +kernel) (by decide +kernel) (by decide +kernel) (by decide +kernel) (by decide +kernel) (by decide +kernel)
theorem y_fit_i {t : FieldType} {v : Value} (h : x_fit (y_kd t) v = true) : narrow t v = v ∧ fits t v = true := by
  cases v <;> cases t <;> simp_all [x_fit, y_kd, narrow, fits]
  rcases h with rfl | rfl <;> decide

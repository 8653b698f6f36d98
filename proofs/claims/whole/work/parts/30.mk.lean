/-! heaps of a known shape: contents are functions; each instruction over them -/
abbrev SH : Type := Nat → Option ((Nat × Nat) ⊕ Nat)
abbrev MI : Type := Nat → Nat → Int32
abbrev ML : Type := Nat → Nat → Int64
abbrev MR : Type := Nat → Nat → Option Nat
abbrev MG : Type := Nat × Nat × (Nat → Nat)
/-! numbers of the machine by integers -/
def w (z : Int) : Int32 := Int32.ofInt z
def wl (z : Int) : Int64 := Int64.ofInt z
theorem w_0 : (0 : Int32) = w 0 := rfl
theorem w_nat (n : Nat) : Int32.ofNat n = w n := by
  unfold w; exact (Int32.ofInt_eq_ofNat ..).symm
def swT (ts : List Nat) (df : Nat) (lo z : Int) : Nat := if z < lo ∨ lo + ts.length ≤ z then df else ts.getD (z - lo).toNat df
def swL : List (Int × Nat) → Nat → Int → Nat
  | [], df, _ => df
  | e :: r, df, z => if z = e.1 then e.2 else swL r df z
/-- kinds of fields, by program out of a run of the constructors -/
def k_tab : List (List Nat) := [[3, 4, 0], [3, 4, 5, 6, 0], [3, 4, 5, 0, 6, 7, 8, 9, 0], [3, 0, 0], [3, 4, 5, 6, 7], [3, 20, 21, 0, 0, 0, 0, 0, 0, 0, 0], [0, 0, 0, 0, 3, 4, 5], [3, 0], [3, 0, 0, 0, 0, 1, 0, 0, 0, 5, 0, 6, 7, 8], [3, 9, 14, 0, 0, 15, 16, 17, 18, 0, 0], [3, 4, 5, 0, 0], [3, 5, 8, 46, 53, 73, 93, 110, 114, 122, 0, 0, 0], [0, 3, 0, 0, 0, 0, 0, 0, 4, 5, 6, 7, 845, 0, 0, 6543, 0, 0, 0, 0, 6544, 6545, 0, 6579, 6580, 6581, 6582, 6583, 6584, 6585, 6586, 0, 6587, 0, 0, 0, 0, 6588, 6589, 6590, 6631, 6672, 6673, 6674, 6675, 6676, 6677, 6678, 6679, 0]]
/-- kinds of fields: 0 an int, 1 a reference that changes, k + 2 the cell that lies k behind the object's own -/
def k_fk (c j : Nat) : Nat := (k_tab.getD c []).getD j 0
def k_val (a k : Nat) (x : Int32) (r : Option Nat) : Value := match k with
  | 0 => .int x
  | 1 => va_rf r
  | k + 2 => .ref (a + k)
def k_obj (I : MI) (R : MR) (a c : Nat) : List Value := (List.range (t_nf.getD c 0)).map (fun j => k_val a (k_fk c j) (I a j) (R a j))
def k_cell (s : Option ((Nat × Nat) ⊕ Nat)) (I : MI) (L : ML) (R : MR) (a : Nat) : Option CE := match s with
  | none => none
  | some (.inl (t, n)) => some (.inl (t, n, if t = 1 then .inr (.inl (L a)) else if 4 ≤ t ∧ t < 11 then .inr (.inr (.inr (.inr (R a)))) else .inl (I a)))
  | some (.inr c) => some (.inr (c, k_obj I R a c))
def mk (S : SH) (I : MI) (L : ML) (R : MR) (G : MG) : Hp := (fun a => k_cell (S a) I L R a, G)
/-- a whole cell's contents anew -/
def wr {α : Type} (I : Nat → Nat → α) (a : Nat) (f : Nat → α) : Nat → Nat → α := fun b => if b = a then f else I b
/-- one place anew -/
def up {α : Type} (f : Nat → α) (k : Nat) (x : α) : Nat → α := fun j => if j = k then x else f j
theorem wr_same {α : Type} {I : Nat → Nat → α} {a : Nat} {f : Nat → α} : wr I a f a = f := if_pos rfl
theorem wr_ne {α : Type} {I : Nat → Nat → α} {a b : Nat} {f : Nat → α} (h : b ≠ a) : wr I a f b = I b := if_neg h
theorem wr_wr {α : Type} {I : Nat → Nat → α} {a : Nat} {f g : Nat → α} : wr (wr I a f) a g = wr I a g := by
  funext b; unfold wr; split <;> rfl
theorem wr_self {α : Type} {I : Nat → Nat → α} {a : Nat} : wr I a (I a) = I := by
  funext b; unfold wr; split
  · rename_i h; rw [h]
  · rfl
theorem up_same {α : Type} {f : Nat → α} {k : Nat} {x : α} : up f k x k = x := if_pos rfl
theorem up_ne {α : Type} {f : Nat → α} {k j : Nat} {x : α} (h : j ≠ k) : up f k x j = f j := if_neg h
def ok_i (t : Nat) : Bool := t == 0 || t == 98
def ok_b (t : Nat) : Bool := t == 2 || t == 3
def ok_l (t : Nat) : Bool := t == 1
def ok_q (t : Nat) : Bool := decide (4 ≤ t) && decide (t < 11)
def ok_0 (t : Nat) : Bool := t == 0
abbrev ix (i : Int32) : Nat := i.toNatClampNeg
/-- an index inside an array of this shape -/
def inA (s : Option ((Nat × Nat) ⊕ Nat)) (ok : Nat → Bool) (i : Int32) : Prop := match s with
  | some (.inl (t, n)) => ok t = true ∧ x_in i n = true
  | _ => False
theorem inA_arr {t n : Nat} {ok : Nat → Bool} {i : Int32} : inA (some (.inl (t, n))) ok i ↔ ok t = true ∧ x_in i n = true := Iff.rfl
theorem inA_congr {s : Option ((Nat × Nat) ⊕ Nat)} {t n : Nat} {ok : Nat → Bool} {i : Int32} (h : s = some (.inl (t, n))) : inA s ok i ↔ ok t = true ∧ x_in i n = true := by
  rw [h]; rfl
theorem XX_not {d m pc : Nat} {l : Lc} {st : List Value} {A : Hp} {Q : XO → Hp → Prop} {i : Instr} (h1 : t_ins m pc = some i) (h2 : x_loc m i pc l st A = none) (h3 : x_fin m i st = none) (h4 : x_thr m i l st A = none) (h5 : x_cal (t_own m) i st A = none) : ¬ XX d m pc l st A Q := by
  rintro ⟨f, o, B, h, -⟩
  cases f with
  | zero => simp [x_run] at h
  | succ f =>
    rw [x_run, h1] at h
    dsimp only at h
    rw [h2] at h
    dsimp only at h
    rw [h3] at h
    dsimp only at h
    rw [h4] at h
    dsimp only at h
    cases d with
    | zero => cases h
    | succ d => dsimp only at h; rw [h5] at h; cases h
theorem XX_mem {d m pc : Nat} {l : Lc} {st : List Value} {A : Hp} {Q : XO → Hp → Prop} {i : Instr} (h1 : t_ins m pc = some i) (h2 : x_stk i st = none) (h3 : x_lcl i l st = none) (h4 : x_br i pc st = none) (h5 : x_fin m i st = none) (h6 : x_thr m i l st A = none) (h7 : x_cal (t_own m) i st A = none) :
    XX d m pc l st A Q ↔ ∃ z, x_mem m i st A = some z ∧ XX d m (pc + x_len i) l z.1 z.2 Q := by
  cases hz : x_mem m i st A with
  | none =>
    have : x_loc m i pc l st A = none := by unfold x_loc; rw [h2, h3, h4, hz]
    constructor
    · intro h; exact absurd h (XX_not h1 this h5 h6 h7)
    · rintro ⟨z, h, -⟩; cases h
  | some z =>
    have : x_loc m i pc l st A = some (pc + x_len i, l, z.1, z.2) := by unfold x_loc; rw [h2, h3, h4, hz]
    rw [XX_loc h1 this]
    constructor
    · intro h; exact ⟨z, rfl, h⟩
    · rintro ⟨z', h, g⟩; cases h; exact g
theorem k_obj_get {I : MI} {R : MR} {a c j : Nat} (hj : j < t_nf.getD c 0) : (k_obj I R a c)[j]? = some (k_val a (k_fk c j) (I a j) (R a j)) := by
  unfold k_obj
  rw [List.getElem?_map, List.getElem?_range hj]
  rfl
theorem k_obj_len {I : MI} {R : MR} {a c : Nat} : (k_obj I R a c).length = t_nf.getD c 0 := by
  unfold k_obj
  rw [List.length_map, List.length_range]
theorem mk_obj {S : SH} {I : MI} {L : ML} {R : MR} {G : MG} {a c : Nat} (h : S a = some (.inr c)) : (mk S I L R G).1 a = some (.inr (c, k_obj I R a c)) := by
  show k_cell (S a) I L R a = _
  rw [h]; rfl
theorem x_fld_mk {S : SH} {I : MI} {L : ML} {R : MR} {G : MG} {a c j : Nat} (hj : j < t_nf.getD c 0) (v : Value) : x_fld (mk S I L R G) a c j = some v ↔ S a = some (.inr c) ∧ v = k_val a (k_fk c j) (I a j) (R a j) := by
  show (match k_cell (S a) I L R a with | some (.inr (c', fs)) => if c' = c then fs[j]? else none | _ => none) = some v ↔ _
  cases hs : S a with
  | none => exact ⟨fun h => by (cases h), fun h => by (cases h.1)⟩
  | some e => cases e with
    | inl e => obtain ⟨t, n⟩ := e; exact ⟨fun h => by (cases h), fun h => by (cases h.1)⟩
    | inr c' =>
      show (if c' = c then (k_obj I R a c')[j]? else none) = some v ↔ _
      by_cases hc : c' = c
      · subst hc
        rw [if_pos rfl, k_obj_get hj]
        exact ⟨fun h => ⟨rfl, (Option.some.inj h).symm⟩, fun h => by rw [h.2]⟩
      · rw [if_neg hc]
        exact ⟨fun h => by (cases h), fun h => absurd (Sum.inr.inj (Option.some.inj h.1)) hc⟩
theorem k_obj_set {I : MI} {R : MR} {a c j : Nat} {x : Int32} (hk : k_fk c j = 0) : (k_obj I R a c).set j (.int x) = k_obj (wr I a (up (I a) j x)) R a c := by
  apply List.ext_getElem?
  intro k
  by_cases hkl : k < t_nf.getD c 0
  · rw [List.getElem?_set, k_obj_get hkl, k_obj_get hkl, wr_same]
    by_cases hjk : j = k
    · subst hjk
      rw [if_pos rfl, if_pos (by rw [k_obj_len]; exact hkl), hk, up_same]
      rfl
    · rw [if_neg hjk, up_ne (fun h => hjk h.symm)]
  · rw [List.getElem?_eq_none (by rw [List.length_set, k_obj_len]; omega), List.getElem?_eq_none (by rw [k_obj_len]; omega)]
theorem k_obj_setR {I : MI} {R : MR} {a c j b : Nat} (hk : k_fk c j = 1) : (k_obj I R a c).set j (.ref b) = k_obj I (wr R a (up (R a) j (some b))) a c := by
  apply List.ext_getElem?
  intro k
  by_cases hkl : k < t_nf.getD c 0
  · rw [List.getElem?_set, k_obj_get hkl, k_obj_get hkl, wr_same]
    by_cases hjk : j = k
    · subst hjk
      rw [if_pos rfl, if_pos (by rw [k_obj_len]; exact hkl), hk, up_same]
      rfl
    · rw [if_neg hjk, up_ne (fun h => hjk h.symm)]
  · rw [List.getElem?_eq_none (by rw [List.length_set, k_obj_len]; omega), List.getElem?_eq_none (by rw [k_obj_len]; omega)]
theorem k_obj_wrI {I : MI} {R : MR} {a b c : Nat} {f : Nat → Int32} (h : b ≠ a) : k_obj (wr I a f) R b c = k_obj I R b c := by
  unfold k_obj; rw [wr_ne h]
theorem k_obj_wrR {I : MI} {R : MR} {a b c : Nat} {f : Nat → Option Nat} (h : b ≠ a) : k_obj I (wr R a f) b c = k_obj I R b c := by
  unfold k_obj; rw [wr_ne h]
theorem k_cell_wr {s : Option ((Nat × Nat) ⊕ Nat)} {I : MI} {L : ML} {R : MR} {a b : Nat} {f : Nat → Int32} (h : b ≠ a) : k_cell s (wr I a f) L R b = k_cell s I L R b := by
  unfold k_cell
  split
  · rfl
  · rw [wr_ne h]
  · rw [k_obj_wrI h]
theorem k_cell_wrR {s : Option ((Nat × Nat) ⊕ Nat)} {I : MI} {L : ML} {R : MR} {a b : Nat} {f : Nat → Option Nat} (h : b ≠ a) : k_cell s I L (wr R a f) b = k_cell s I L R b := by
  unfold k_cell
  split
  · rfl
  · rw [wr_ne h]
  · rw [k_obj_wrR h]
theorem k_cell_wrL {s : Option ((Nat × Nat) ⊕ Nat)} {I : MI} {L : ML} {R : MR} {a b : Nat} {f : Nat → Int64} (h : b ≠ a) : k_cell s I (wr L a f) R b = k_cell s I L R b := by
  unfold k_cell
  split
  · rfl
  · rw [wr_ne h]
  · rfl
theorem mk_arrI {S : SH} {I : MI} {L : ML} {R : MR} {G : MG} {a t n : Nat} (h : S a = some (.inl (t, n))) (h1 : t ≠ 1) (h2 : ¬ (4 ≤ t ∧ t < 11)) : (mk S I L R G).1 a = some (.inl (t, n, .inl (I a))) := by
  show k_cell (S a) I L R a = _
  rw [h]
  show some (Sum.inl (t, n, _)) = _
  rw [if_neg h1, if_neg h2]
theorem mk_arrL {S : SH} {I : MI} {L : ML} {R : MR} {G : MG} {a n : Nat} (h : S a = some (.inl (1, n))) : (mk S I L R G).1 a = some (.inl (1, n, .inr (.inl (L a)))) := by
  show k_cell (S a) I L R a = _
  rw [h]; rfl
theorem mk_arrR {S : SH} {I : MI} {L : ML} {R : MR} {G : MG} {a t n : Nat} (h : S a = some (.inl (t, n))) (h1 : t ≠ 1) (h2 : 4 ≤ t ∧ t < 11) : (mk S I L R G).1 a = some (.inl (t, n, .inr (.inr (.inr (.inr (R a)))))) := by
  show k_cell (S a) I L R a = _
  rw [h]
  show some (Sum.inl (t, n, _)) = _
  rw [if_neg h1, if_pos h2]
theorem mk_setO {S : SH} {I : MI} {L : ML} {R : MR} {G : MG} {a c j : Nat} {x : Int32} (h : S a = some (.inr c)) (hk : k_fk c j = 0) : h_set (mk S I L R G) a (.inr (c, (k_obj I R a c).set j (.int x))) = mk S (wr I a (up (I a) j x)) L R G := by
  unfold h_set mk
  refine Prod.ext (funext fun b => ?_) rfl
  dsimp only
  by_cases hb : b = a
  · subst hb; rw [if_pos rfl, h, k_obj_set hk]; rfl
  · rw [if_neg hb, k_cell_wr hb]
theorem mk_setOR {S : SH} {I : MI} {L : ML} {R : MR} {G : MG} {a c j b : Nat} (h : S a = some (.inr c)) (hk : k_fk c j = 1) : h_set (mk S I L R G) a (.inr (c, (k_obj I R a c).set j (.ref b))) = mk S I L (wr R a (up (R a) j (some b))) G := by
  unfold h_set mk
  refine Prod.ext (funext fun b => ?_) rfl
  dsimp only
  by_cases hb : b = a
  · subst hb; rw [if_pos rfl, h, k_obj_setR hk]; rfl
  · rw [if_neg hb, k_cell_wrR hb]
theorem mk_setI {S : SH} {I : MI} {L : ML} {R : MR} {G : MG} {a t n : Nat} {f : Nat → Int32} (h : S a = some (.inl (t, n))) (h1 : t ≠ 1) (h2 : ¬ (4 ≤ t ∧ t < 11)) : h_set (mk S I L R G) a (.inl (t, n, .inl f)) = mk S (wr I a f) L R G := by
  unfold h_set mk
  refine Prod.ext (funext fun b => ?_) rfl
  dsimp only
  by_cases hb : b = a
  · subst hb; rw [if_pos rfl, h]; show _ = some (Sum.inl (t, n, _)); rw [if_neg h1, if_neg h2, wr_same]
  · rw [if_neg hb, k_cell_wr hb]
theorem mk_setL {S : SH} {I : MI} {L : ML} {R : MR} {G : MG} {a n : Nat} {f : Nat → Int64} (h : S a = some (.inl (1, n))) : h_set (mk S I L R G) a (.inl (1, n, .inr (.inl f))) = mk S I (wr L a f) R G := by
  unfold h_set mk
  refine Prod.ext (funext fun b => ?_) rfl
  dsimp only
  by_cases hb : b = a
  · subst hb; rw [if_pos rfl, h]; show _ = some (Sum.inl (1, n, _)); rw [if_pos rfl, wr_same]
  · rw [if_neg hb, k_cell_wrL hb]
theorem mk_setR {S : SH} {I : MI} {L : ML} {R : MR} {G : MG} {a t n : Nat} {f : Nat → Option Nat} (h : S a = some (.inl (t, n))) (h1 : t ≠ 1) (h2 : 4 ≤ t ∧ t < 11) : h_set (mk S I L R G) a (.inl (t, n, .inr (.inr (.inr (.inr f))))) = mk S I L (wr R a f) G := by
  unfold h_set mk
  refine Prod.ext (funext fun b => ?_) rfl
  dsimp only
  by_cases hb : b = a
  · subst hb; rw [if_pos rfl, h]; show _ = some (Sum.inl (t, n, _)); rw [if_neg h1, if_pos h2, wr_same]
  · rw [if_neg hb, k_cell_wrR hb]
def alP (s : Option ((Nat × Nat) ⊕ Nat)) (K : Int32 → Prop) : Prop := match s with
  | some (.inl (t, n)) => t < 99 ∧ K (Int32.ofNat n)
  | _ => False
theorem alP_arr {t n : Nat} {K : Int32 → Prop} : alP (some (.inl (t, n))) K ↔ t < 99 ∧ K (Int32.ofNat n) := Iff.rfl
def bsP (s : Option ((Nat × Nat) ⊕ Nat)) (i x : Int32) (K : Int32 → Prop) : Prop := match s with
  | some (.inl (2, n)) => x_in i n = true ∧ K x.toInt8.toInt32
  | some (.inl (3, n)) => x_in i n = true ∧ K (x &&& 1)
  | _ => False
theorem bsP_2 {n : Nat} {i x : Int32} {K : Int32 → Prop} : bsP (some (.inl (2, n))) i x K ↔ x_in i n = true ∧ K x.toInt8.toInt32 := Iff.rfl
theorem bsP_3 {n : Nat} {i x : Int32} {K : Int32 → Prop} : bsP (some (.inl (3, n))) i x K ↔ x_in i n = true ∧ K (x &&& 1) := Iff.rfl
def aqP (s : Option ((Nat × Nat) ⊕ Nat)) (S : SH) (o : Option Nat) (i : Int32) : Prop := match s, o with
  | some (.inl (t, n)), none => (t = 4 ∨ t = 5) ∧ x_in i n = true
  | some (.inl (t, n)), some y => (match S y with | some (.inr c) => x_aqOk t c = true ∧ x_in i n = true | _ => False)
  | _, _ => False
theorem aqP_n {t n : Nat} {S : SH} {i : Int32} : aqP (some (.inl (t, n))) S none i ↔ (t = 4 ∨ t = 5) ∧ x_in i n = true := Iff.rfl
theorem aqP_s {t n y c : Nat} {S : SH} {i : Int32} (h : S y = some (.inr c)) : aqP (some (.inl (t, n))) S (some y) i ↔ x_aqOk t c = true ∧ x_in i n = true := by
  show (match S y with | some (.inr c) => x_aqOk t c = true ∧ x_in i n = true | _ => False) ↔ _
  rw [h]
def strP (s : Option ((Nat × Nat) ⊕ Nat)) (K : Nat → Prop) : Prop := match s with
  | some (.inl (99, n)) => K n
  | _ => False
theorem strP_s {n : Nat} {K : Nat → Prop} : strP (some (.inl (99, n))) K ↔ K n := Iff.rfl
theorem va_rf_cat {o : Option Nat} : (va_rf o).category = 1 := by cases o <;> rfl
/-- a value's place beside a store: a long's second half goes -/
def kl (v : Option Value) : Option Value := if x_two v = true then none else v
theorem kl_n : kl none = none := rfl
theorem kl_i {x : Int32} : kl (some (.int x)) = some (.int x) := rfl
theorem kl_r {a : Nat} : kl (some (.ref a)) = some (.ref a) := rfl
theorem kl_o {o : Option Nat} : kl (some (va_rf o)) = some (va_rf o) := by cases o <;> rfl
section
variable {d m pc : Nat} {l : Lc} {st : List Value} {Q : XO → Hp → Prop} {S : SH} {I : MI} {L : ML} {R : MR} {G : MG} {k c j a : Nat} {A : Hp}
theorem XX_memc {i : Instr} {C : Prop} {z0 : List Value × Hp} (h1 : t_ins m pc = some i) (h2 : x_stk i st = none) (h3 : x_lcl i l st = none) (h4 : x_br i pc st = none) (h5 : x_fin m i st = none) (h6 : x_thr m i l st A = none) (h7 : x_cal (t_own m) i st A = none) (hm : ∀ z, x_mem m i st A = some z ↔ C ∧ z = z0) :
    XX d m pc l st A Q ↔ C ∧ XX d m (pc + x_len i) l z0.1 z0.2 Q := by
  rw [XX_mem h1 h2 h3 h4 h5 h6 h7]
  constructor
  · rintro ⟨z, hz, h⟩
    obtain ⟨g1, rfl⟩ := (hm z).mp hz
    exact ⟨g1, h⟩
  · rintro ⟨g1, h⟩
    exact ⟨_, (hm _).mpr ⟨g1, rfl⟩, h⟩
theorem o_map {α β : Type} {o : Option α} {C : Prop} {v0 : α} (f : α → β) (h : ∀ v, o = some v ↔ C ∧ v = v0) (z : β) : o.map f = some z ↔ C ∧ z = f v0 := by
  constructor
  · intro hz
    obtain ⟨v, hv, rfl⟩ := Option.map_eq_some_iff.mp hz
    obtain ⟨g1, rfl⟩ := (h v).mp hv
    exact ⟨g1, rfl⟩
  · rintro ⟨g1, rfl⟩
    rw [(h _).mpr ⟨g1, rfl⟩]; rfl
theorem o_if {α : Type} {C : Prop} {b : Bool} {v0 : α} (h : b = true ↔ C) (z : α) : (if b = true then some v0 else none) = some z ↔ C ∧ z = v0 := by
  by_cases hb : b = true
  · rw [if_pos hb]; exact ⟨fun e => ⟨h.mp hb, (Option.some.inj e).symm⟩, fun e => by rw [e.2]⟩
  · rw [if_neg hb]; exact ⟨fun e => by (cases e), fun e => absurd (h.mpr e.1) hb⟩
theorem r_gf {v : Value} (h1 : t_ins m pc = some (.getfield k)) (h2 : t_fld (t_own m) k = some (c, j)) (h3 : j < t_nf.getD c 0) (h4 : k_val a (k_fk c j) (I a j) (R a j) = v) : XX d m pc l (.ref a :: st) (mk S I L R G) Q ↔ S a = some (.inr c) ∧ XX d m (pc + 3) l (v :: st) (mk S I L R G) Q := by
  subst h4
  refine XX_memc (z0 := (k_val a (k_fk c j) (I a j) (R a j) :: st, mk S I L R G)) h1 rfl rfl rfl rfl rfl rfl (fun z => ?_)
  show (match t_fld (t_own m) k, Value.ref a :: st with | some (c, j), .ref a :: r => (x_fld (mk S I L R G) a c j).map (fun v => (v :: r, mk S I L R G)) | _, _ => none) = some z ↔ _
  rw [h2]
  exact o_map (fun v => (v :: st, mk S I L R G)) (fun v => x_fld_mk h3 v) z
theorem x_fldS_mk {v : Value} {A' : Hp} (hj : j < t_nf.getD c 0) : x_fldS (mk S I L R G) a c j v = some A' ↔ S a = some (.inr c) ∧ A' = h_set (mk S I L R G) a (.inr (c, (k_obj I R a c).set j v)) := by
  show (match k_cell (S a) I L R a with | some (.inr (c', fs)) => if c' = c ∧ j < fs.length then some (h_set (mk S I L R G) a (.inr (c', fs.set j v))) else none | _ => none) = some A' ↔ _
  cases hs : S a with
  | none => exact ⟨fun h => by (cases h), fun h => by (cases h.1)⟩
  | some e => cases e with
    | inl e => obtain ⟨t, n⟩ := e; exact ⟨fun h => by (cases h), fun h => by (cases h.1)⟩
    | inr c' =>
      show (if c' = c ∧ j < (k_obj I R a c').length then some (h_set (mk S I L R G) a (.inr (c', (k_obj I R a c').set j v))) else none) = some A' ↔ _
      by_cases hc : c' = c
      · subst hc
        rw [if_pos ⟨rfl, by rw [k_obj_len]; exact hj⟩]
        exact ⟨fun h => ⟨rfl, (Option.some.inj h).symm⟩, fun h => by rw [h.2]⟩
      · rw [if_neg (fun h => hc h.1)]
        exact ⟨fun h => by (cases h), fun h => absurd (Sum.inr.inj (Option.some.inj h.1)) hc⟩
theorem r_pfg {v : Value} {A' : Hp} (h1 : t_ins m pc = some (.putfield k)) (h2 : t_fld (t_own m) k = some (c, j)) (h3 : j < t_nf.getD c 0) (h6 : t_fin c j = false) (h7 : S a = some (.inr c) → h_set (mk S I L R G) a (.inr (c, (k_obj I R a c).set j v)) = A') {P : Prop} (h8 : x_fit (t_ft c j) v = true ↔ P) (h9 : ∀ st : List Value, x_stk (.putfield k) st = none ∧ x_lcl (.putfield k) l st = none ∧ x_br (.putfield k) pc st = none ∧ x_fin m (.putfield k) st = none) : XX d m pc l (v :: .ref a :: st) (mk S I L R G) Q ↔ P ∧ S a = some (.inr c) ∧ XX d m (pc + 3) l st A' Q := by
  rw [← and_assoc]
  refine XX_memc (z0 := (st, A')) h1 (h9 _).1 (h9 _).2.1 (h9 _).2.2.1 (h9 _).2.2.2 rfl rfl (fun z => ?_)
  show (match t_fld (t_own m) k, v :: Value.ref a :: st with | some (c, j), v :: .ref a :: r => if x_fit (t_ft c j) v && (!t_fin c j || (t_isi m && c == t_own m)) then (x_fldS (mk S I L R G) a c j v).map (fun A' => (r, A')) else none | _, _ => none) = some z ↔ _
  rw [h2]
  show (if x_fit (t_ft c j) v && (!t_fin c j || (t_isi m && c == t_own m)) then (x_fldS (mk S I L R G) a c j v).map (fun A' => (st, A')) else none) = some z ↔ _
  rw [h6, show (!false || (t_isi m && c == t_own m)) = true from rfl, Bool.and_true]
  by_cases hP : P
  · rw [if_pos (h8.mpr hP)]
    constructor
    · intro h
      obtain ⟨v', hv, rfl⟩ := Option.map_eq_some_iff.mp h
      obtain ⟨g1, rfl⟩ := (x_fldS_mk h3).mp hv
      exact ⟨⟨hP, g1⟩, by rw [h7 g1]⟩
    · rintro ⟨⟨-, g1⟩, rfl⟩
      rw [(x_fldS_mk h3).mpr ⟨g1, (h7 g1).symm⟩]
      rfl
  · rw [if_neg (fun h => hP (h8.mp h))]
    exact ⟨fun h => by (cases h), fun h => absurd h.1.1 hP⟩
theorem r_pf {x : Int32} (h1 : t_ins m pc = some (.putfield k)) (h2 : t_fld (t_own m) k = some (c, j)) (h3 : j < t_nf.getD c 0) (h4 : k_fk c j = 0) (h5 : t_ft c j = 0) (h6 : t_fin c j = false) : XX d m pc l (.int x :: .ref a :: st) (mk S I L R G) Q ↔ S a = some (.inr c) ∧ XX d m (pc + 3) l st (mk S (wr I a (up (I a) j x)) L R G) Q := by
  rw [r_pfg h1 h2 h3 h6 (fun h => mk_setO h h4) (P := True) (by rw [h5]; exact ⟨fun _ => trivial, fun _ => rfl⟩) (fun st => ⟨rfl, rfl, rfl, rfl⟩), true_and]
theorem r_pfz {x : Int32} (h1 : t_ins m pc = some (.putfield k)) (h2 : t_fld (t_own m) k = some (c, j)) (h3 : j < t_nf.getD c 0) (h4 : k_fk c j = 0) (h5 : t_ft c j = 1) (h6 : t_fin c j = false) : XX d m pc l (.int x :: .ref a :: st) (mk S I L R G) Q ↔ (x = 0 ∨ x = 1) ∧ S a = some (.inr c) ∧ XX d m (pc + 3) l st (mk S (wr I a (up (I a) j x)) L R G) Q :=
  r_pfg h1 h2 h3 h6 (fun h => mk_setO h h4) (P := x = 0 ∨ x = 1) (by rw [h5]; show (1 == 0 || (1 == 1 && (x == 0 || x == 1))) = true ↔ _; simp) (fun st => ⟨rfl, rfl, rfl, rfl⟩)
theorem r_pfR {b : Nat} (h1 : t_ins m pc = some (.putfield k)) (h2 : t_fld (t_own m) k = some (c, j)) (h3 : j < t_nf.getD c 0) (h4 : k_fk c j = 1) (h5 : t_ft c j = 2) (h6 : t_fin c j = false) : XX d m pc l (.ref b :: .ref a :: st) (mk S I L R G) Q ↔ S a = some (.inr c) ∧ XX d m (pc + 3) l st (mk S I L (wr R a (up (R a) j (some b))) G) Q := by
  rw [r_pfg h1 h2 h3 h6 (fun h => mk_setOR h h4) (P := True) (by rw [h5]; exact ⟨fun _ => trivial, fun _ => rfl⟩) (fun st => ⟨rfl, rfl, rfl, rfl⟩), true_and]
theorem r_al (h1 : t_ins m pc = some .arraylength) : XX d m pc l (.ref a :: st) (mk S I L R G) Q ↔ alP (S a) (fun n => XX d m (pc + 1) l (.int n :: st) (mk S I L R G) Q) := by
  rw [XX_mem h1 rfl rfl rfl rfl rfl rfl]
  show (∃ z, ((match k_cell (S a) I L R a with | some (.inl (t, n, _)) => if t < 99 then some n else none | _ => none) : Option Nat).map (fun n => (Value.int (Int32.ofNat n) :: st, mk S I L R G)) = some z ∧ XX d m (pc + 1) l z.1 z.2 Q) ↔ _
  cases hs : S a with
  | none => exact ⟨fun ⟨z, h, _⟩ => by (cases h), fun h => h.elim⟩
  | some e => cases e with
    | inr c => exact ⟨fun ⟨z, h, _⟩ => by (cases h), fun h => h.elim⟩
    | inl e =>
      obtain ⟨t, n⟩ := e
      show (∃ z, ((if t < 99 then some n else none) : Option Nat).map (fun n => (Value.int (Int32.ofNat n) :: st, mk S I L R G)) = some z ∧ XX d m (pc + 1) l z.1 z.2 Q) ↔ t < 99 ∧ _
      by_cases ht : t < 99
      · rw [if_pos ht]
        exact ⟨fun ⟨z, h, g⟩ => by cases h; exact ⟨ht, g⟩, fun h => ⟨_, rfl, h.2⟩⟩
      · rw [if_neg ht]
        exact ⟨fun ⟨z, h, _⟩ => by (cases h), fun h => absurd h.1 ht⟩
/-- what a cell of a shape is -/
theorem k_cases (s : Option ((Nat × Nat) ⊕ Nat)) : s = none ∨ (∃ c, s = some (.inr c)) ∨ (∃ n, s = some (.inl (1, n))) ∨ (∃ t n, s = some (.inl (t, n)) ∧ t ≠ 1 ∧ 4 ≤ t ∧ t < 11) ∨ (∃ t n, s = some (.inl (t, n)) ∧ t ≠ 1 ∧ ¬ (4 ≤ t ∧ t < 11)) := by
  cases s with
  | none => exact Or.inl rfl
  | some e => cases e with
    | inr c => exact Or.inr (Or.inl ⟨c, rfl⟩)
    | inl e =>
      obtain ⟨t, n⟩ := e
      by_cases h1 : t = 1
      · subst h1; exact Or.inr (Or.inr (Or.inl ⟨n, rfl⟩))
      · by_cases h2 : 4 ≤ t ∧ t < 11
        · exact Or.inr (Or.inr (Or.inr (Or.inl ⟨t, n, rfl, h1, h2⟩)))
        · exact Or.inr (Or.inr (Or.inr (Or.inr ⟨t, n, rfl, h1, h2⟩)))
theorem mk_none (h : S a = none) : (mk S I L R G).1 a = none := by
  show k_cell (S a) I L R a = _
  rw [h]; rfl
theorem x_ai_mk {i : Int32} {ok : Nat → Bool} {v : Int32} (hok : ∀ t, ok t = true → t ≠ 1 ∧ ¬ (4 ≤ t ∧ t < 11)) : x_ai (mk S I L R G) a i ok = some v ↔ inA (S a) ok i ∧ v = I a (ix i) := by
  unfold x_ai
  rcases k_cases (S a) with h | ⟨c, h⟩ | ⟨n, h⟩ | ⟨t, n, h, h1, h2⟩ | ⟨t, n, h, h1, h2⟩
  · rw [mk_none h, h]; exact ⟨fun h => by (cases h), fun h => h.1.elim⟩
  · rw [mk_obj h, h]; exact ⟨fun h => by (cases h), fun h => h.1.elim⟩
  · rw [mk_arrL h, h, inA_arr]; exact ⟨fun h => by (cases h), fun h => absurd rfl (hok _ h.1.1).1⟩
  · rw [mk_arrR h h1 h2, h, inA_arr]; exact ⟨fun h => by (cases h), fun h => absurd h2 (hok _ h.1.1).2⟩
  · rw [mk_arrI h h1 h2, h, inA_arr]
    exact o_if (by simp) v
theorem r_ia {i : Int32} (h1 : t_ins m pc = some .iaload) : XX d m pc l (.int i :: .ref a :: st) (mk S I L R G) Q ↔ inA (S a) (fun t => t == 0 || t == 98) i ∧ XX d m (pc + 1) l (.int (I a (ix i)) :: st) (mk S I L R G) Q :=
  XX_memc (z0 := (.int (I a (ix i)) :: st, mk S I L R G)) h1 rfl rfl rfl rfl rfl rfl (o_map (fun v => (Value.int v :: st, mk S I L R G)) (fun v => x_ai_mk (ok := fun t => t == 0 || t == 98) (fun t h => by simp at h; omega)))
theorem r_ba {i : Int32} (h1 : t_ins m pc = some .baload) : XX d m pc l (.int i :: .ref a :: st) (mk S I L R G) Q ↔ inA (S a) (fun t => t == 2 || t == 3) i ∧ XX d m (pc + 1) l (.int (I a (ix i)) :: st) (mk S I L R G) Q :=
  XX_memc (z0 := (.int (I a (ix i)) :: st, mk S I L R G)) h1 rfl rfl rfl rfl rfl rfl (o_map (fun v => (Value.int v :: st, mk S I L R G)) (fun v => x_ai_mk (ok := fun t => t == 2 || t == 3) (fun t h => by simp at h; omega)))
theorem x_al_mk {i : Int32} {v : Int64} : x_al (mk S I L R G) a i = some v ↔ inA (S a) (fun t => t == 1) i ∧ v = L a (ix i) := by
  unfold x_al
  rcases k_cases (S a) with h | ⟨c, h⟩ | ⟨n, h⟩ | ⟨t, n, h, h1, h2⟩ | ⟨t, n, h, h1, h2⟩
  · rw [mk_none h, h]; exact ⟨fun h => by (cases h), fun h => h.1.elim⟩
  · rw [mk_obj h, h]; exact ⟨fun h => by (cases h), fun h => h.1.elim⟩
  · rw [mk_arrL h, h, inA_arr]
    exact o_if (by simp) v
  · rw [mk_arrR h h1 h2, h, inA_arr]; exact ⟨fun h => by (cases h), fun h => absurd (beq_iff_eq.mp h.1.1) h1⟩
  · rw [mk_arrI h h1 h2, h, inA_arr]; exact ⟨fun h => by (cases h), fun h => absurd (beq_iff_eq.mp h.1.1) h1⟩
theorem r_la {i : Int32} (h1 : t_ins m pc = some .laload) : XX d m pc l (.int i :: .ref a :: st) (mk S I L R G) Q ↔ inA (S a) (fun t => t == 1) i ∧ XX d m (pc + 1) l (.long (L a (ix i)) :: st) (mk S I L R G) Q :=
  XX_memc (z0 := (.long (L a (ix i)) :: st, mk S I L R G)) h1 rfl rfl rfl rfl rfl rfl (o_map (fun v => (Value.long v :: st, mk S I L R G)) (fun v => x_al_mk))
theorem x_aq_mk {i : Int32} {v : Option Nat} : x_aq (mk S I L R G) a i = some v ↔ inA (S a) (fun t => decide (4 ≤ t) && decide (t < 11)) i ∧ v = R a (ix i) := by
  unfold x_aq
  rcases k_cases (S a) with h | ⟨c, h⟩ | ⟨n, h⟩ | ⟨t, n, h, h1, h2⟩ | ⟨t, n, h, h1, h2⟩
  · rw [mk_none h, h]; exact ⟨fun h => by (cases h), fun h => h.1.elim⟩
  · rw [mk_obj h, h]; exact ⟨fun h => by (cases h), fun h => h.1.elim⟩
  · rw [mk_arrL h, h, inA_arr]; exact ⟨fun h => by (cases h), fun h => by simp at h⟩
  · rw [mk_arrR h h1 h2, h, inA_arr]
    exact o_if (by simp) v
  · rw [mk_arrI h h1 h2, h, inA_arr]; exact ⟨fun h => by (cases h), fun h => absurd (by simpa using h.1.1) h2⟩
theorem r_aq {i : Int32} (h1 : t_ins m pc = some .aaload) : XX d m pc l (.int i :: .ref a :: st) (mk S I L R G) Q ↔ inA (S a) (fun t => decide (4 ≤ t) && decide (t < 11)) i ∧ XX d m (pc + 1) l (va_rf (R a (ix i)) :: st) (mk S I L R G) Q :=
  XX_memc (z0 := (va_rf (R a (ix i)) :: st, mk S I L R G)) h1 rfl rfl rfl rfl rfl rfl (o_map (fun v => (va_rf v :: st, mk S I L R G)) (fun v => x_aq_mk))
theorem upd_up (f : Nat → Int32) (k : Nat) (x : Int32) : upd f k x = up f k x := rfl
theorem x_aiS_mk {i x : Int32} {v : Hp} : x_aiS (mk S I L R G) a i x = some v ↔ inA (S a) (fun t => t == 0) i ∧ v = mk S (wr I a (up (I a) (ix i) x)) L R G := by
  unfold x_aiS
  rcases k_cases (S a) with h | ⟨c, h⟩ | ⟨n, h⟩ | ⟨t, n, h, h1, h2⟩ | ⟨t, n, h, h1, h2⟩
  · rw [mk_none h, h]; exact ⟨fun h => by (cases h), fun h => h.1.elim⟩
  · rw [mk_obj h, h]; exact ⟨fun h => by (cases h), fun h => h.1.elim⟩
  · rw [mk_arrL h, h, inA_arr]; exact ⟨fun h => by (cases h), fun h => by simp at h⟩
  · rw [mk_arrR h h1 h2, h, inA_arr]; exact ⟨fun h => by (cases h), fun h => by simp at h; omega⟩
  · rw [mk_arrI h h1 h2, inA_congr h, ← mk_setI h h1 h2]
    exact o_if (by simp) v
theorem r_ias {i x : Int32} (h1 : t_ins m pc = some .iastore) : XX d m pc l (.int x :: .int i :: .ref a :: st) (mk S I L R G) Q ↔ inA (S a) (fun t => t == 0) i ∧ XX d m (pc + 1) l st (mk S (wr I a (up (I a) (ix i) x)) L R G) Q :=
  XX_memc (z0 := (st, mk S (wr I a (up (I a) (ix i) x)) L R G)) h1 rfl rfl rfl rfl rfl rfl (o_map (fun v => (st, v)) (fun v => x_aiS_mk))
theorem x_alS_mk {i : Int32} {x : Int64} {v : Hp} : x_alS (mk S I L R G) a i x = some v ↔ inA (S a) (fun t => t == 1) i ∧ v = mk S I (wr L a (up (L a) (ix i) x)) R G := by
  unfold x_alS
  rcases k_cases (S a) with h | ⟨c, h⟩ | ⟨n, h⟩ | ⟨t, n, h, h1, h2⟩ | ⟨t, n, h, h1, h2⟩
  · rw [mk_none h, h]; exact ⟨fun h => by (cases h), fun h => h.1.elim⟩
  · rw [mk_obj h, h]; exact ⟨fun h => by (cases h), fun h => h.1.elim⟩
  · rw [mk_arrL h, inA_congr h, ← mk_setL h]
    exact o_if (by simp) v
  · rw [mk_arrR h h1 h2, h, inA_arr]; exact ⟨fun h => by (cases h), fun h => absurd (beq_iff_eq.mp h.1.1) h1⟩
  · rw [mk_arrI h h1 h2, h, inA_arr]; exact ⟨fun h => by (cases h), fun h => absurd (beq_iff_eq.mp h.1.1) h1⟩
theorem r_las {i : Int32} {x : Int64} (h1 : t_ins m pc = some .lastore) : XX d m pc l (.long x :: .int i :: .ref a :: st) (mk S I L R G) Q ↔ inA (S a) (fun t => t == 1) i ∧ XX d m (pc + 1) l st (mk S I (wr L a (up (L a) (ix i) x)) R G) Q :=
  XX_memc (z0 := (st, mk S I (wr L a (up (L a) (ix i) x)) R G)) h1 rfl rfl rfl rfl rfl rfl (o_map (fun v => (st, v)) (fun v => x_alS_mk))
theorem r_bas {i x : Int32} (h1 : t_ins m pc = some .bastore) : XX d m pc l (.int x :: .int i :: .ref a :: st) (mk S I L R G) Q ↔ bsP (S a) i x (fun y => XX d m (pc + 1) l st (mk S (wr I a (up (I a) (ix i) y)) L R G) Q) := by
  rw [XX_mem h1 rfl rfl rfl rfl rfl rfl]
  show (∃ z, (x_abS (mk S I L R G) a i x).map (fun A' => (st, A')) = some z ∧ XX d m (pc + 1) l z.1 z.2 Q) ↔ _
  unfold x_abS
  rcases k_cases (S a) with h | ⟨c, h⟩ | ⟨n, h⟩ | ⟨t, n, h, h1, h2⟩ | ⟨t, n, h, h1, h2⟩
  · rw [mk_none h, h]; exact ⟨fun ⟨z, h, _⟩ => by (cases h), fun h => h.elim⟩
  · rw [mk_obj h, h]; exact ⟨fun ⟨z, h, _⟩ => by (cases h), fun h => h.elim⟩
  · rw [mk_arrL h, h]; exact ⟨fun ⟨z, h, _⟩ => by (cases h), fun h => h.elim⟩
  · rw [mk_arrR h h1 h2, h]
    refine ⟨fun ⟨z, h, _⟩ => by (cases h), fun h => ?_⟩
    unfold bsP at h
    split at h
    · rename_i e; cases e; omega
    · rename_i e; cases e; omega
    · exact h.elim
  · rw [mk_arrI h h1 h2]
    dsimp only
    rw [mk_setI h h1 h2, mk_setI h h1 h2, h]
    by_cases t2 : t = 2
    · subst t2
      rw [bsP_2]
      by_cases hx : x_in i n = true
      · rw [hx]
        exact ⟨fun ⟨z, e, g⟩ => by cases e; exact ⟨rfl, g⟩, fun g => ⟨_, rfl, g.2⟩⟩
      · rw [Bool.not_eq_true] at hx
        rw [hx]
        exact ⟨fun ⟨z, e, g⟩ => by (cases e), fun g => by (cases g.1)⟩
    · by_cases t3 : t = 3
      · subst t3
        rw [bsP_3]
        by_cases hx : x_in i n = true
        · rw [hx]
          exact ⟨fun ⟨z, e, g⟩ => by cases e; exact ⟨rfl, g⟩, fun g => ⟨_, rfl, g.2⟩⟩
        · rw [Bool.not_eq_true] at hx
          rw [hx]
          exact ⟨fun ⟨z, e, g⟩ => by (cases e), fun g => by (cases g.1)⟩
      · rw [if_neg (by simp [t2]), if_neg (by simp [t3])]
        refine ⟨fun ⟨z, h, _⟩ => by (cases h), fun h => ?_⟩
        unfold bsP at h
        split at h
        · rename_i e; cases e; omega
        · rename_i e; cases e; omega
        · exact h.elim
theorem x_cls_mk {y c : Nat} : x_cls (mk S I L R G) y = some c ↔ S y = some (.inr c) := by
  unfold x_cls
  rcases k_cases (S y) with h | ⟨c, h⟩ | ⟨n, h⟩ | ⟨t, n, h, h1, h2⟩ | ⟨t, n, h, h1, h2⟩
  · rw [mk_none h, h]; exact ⟨fun h => by (cases h), fun h => by (cases h)⟩
  · rw [mk_obj h, h]; exact ⟨fun h => by cases h; rfl, fun h => by cases h; rfl⟩
  · rw [mk_arrL h, h]; exact ⟨fun h => by (cases h), fun h => by (cases h)⟩
  · rw [mk_arrR h h1 h2, h]; exact ⟨fun h => by (cases h), fun h => by (cases h)⟩
  · rw [mk_arrI h h1 h2, h]; exact ⟨fun h => by (cases h), fun h => by (cases h)⟩
theorem va_up_up {α : Type} (f : Nat → α) (k : Nat) (x : α) : va_up f k x = up f k x := rfl
theorem x_aqS_mk {i : Int32} {y : Nat} {v : Hp} : x_aqS (mk S I L R G) a i y = some v ↔ aqP (S a) S (some y) i ∧ v = mk S I L (wr R a (up (R a) (ix i) (some y))) G := by
  unfold x_aqS
  rcases k_cases (S a) with h | ⟨c, h⟩ | ⟨n, h⟩ | ⟨t, n, h, h1, h2⟩ | ⟨t, n, h, h1, h2⟩
  · rw [mk_none h, h]; exact ⟨fun h => by (cases h), fun h => h.1.elim⟩
  · rw [mk_obj h, h]; exact ⟨fun h => by (cases h), fun h => h.1.elim⟩
  · rw [mk_arrL h, h]
    refine ⟨fun h => by (cases h), fun h => ?_⟩
    unfold aqP at h
    have h := h.1
    dsimp only at h
    split at h
    · rename_i e; simp [x_aqOk] at h
    · exact h.elim
  · rw [mk_arrR h h1 h2]
    dsimp only
    rw [mk_setR h h1 h2, h]
    unfold aqP
    dsimp only
    cases hc : x_cls (mk S I L R G) y with
    | none =>
      refine ⟨fun h => by (cases h), fun h => ?_⟩
      split at h
      · rename_i e; rw [x_cls_mk.mpr e] at hc; cases hc
      · exact h.1.elim
    | some c =>
      rw [x_cls_mk.mp hc]
      exact o_if (by simp) v
  · rw [mk_arrI h h1 h2, h]
    refine ⟨fun h => by (cases h), fun h => ?_⟩
    unfold aqP at h
    have h := h.1
    dsimp only at h
    split at h
    · rename_i e; simp [x_aqOk] at h; omega
    · exact h.elim
theorem x_aqN_mk {i : Int32} {v : Hp} : x_aqN (mk S I L R G) a i = some v ↔ aqP (S a) S none i ∧ v = mk S I L (wr R a (up (R a) (ix i) none)) G := by
  unfold x_aqN
  rcases k_cases (S a) with h | ⟨c, h⟩ | ⟨n, h⟩ | ⟨t, n, h, h1, h2⟩ | ⟨t, n, h, h1, h2⟩
  · rw [mk_none h, h]; exact ⟨fun h => by (cases h), fun h => h.1.elim⟩
  · rw [mk_obj h, h]; exact ⟨fun h => by (cases h), fun h => h.1.elim⟩
  · rw [mk_arrL h, h]
    refine ⟨fun h => by (cases h), fun h => ?_⟩
    have h := (aqP_n.mp h.1).1
    omega
  · rw [mk_arrR h h1 h2]
    dsimp only
    rw [mk_setR h h1 h2, h, aqP_n]
    exact o_if (by simp) v
  · rw [mk_arrI h h1 h2, h]
    refine ⟨fun h => by (cases h), fun h => ?_⟩
    have h := (aqP_n.mp h.1).1
    omega
theorem r_aqs {i : Int32} {y : Nat} (h1 : t_ins m pc = some .aastore) : XX d m pc l (.ref y :: .int i :: .ref a :: st) (mk S I L R G) Q ↔ aqP (S a) S (some y) i ∧ XX d m (pc + 1) l st (mk S I L (wr R a (up (R a) (ix i) (some y))) G) Q :=
  XX_memc (z0 := (st, mk S I L (wr R a (up (R a) (ix i) (some y))) G)) h1 rfl rfl rfl rfl rfl rfl (o_map (fun v => (st, v)) (fun v => x_aqS_mk))
theorem r_aqn {i : Int32} (h1 : t_ins m pc = some .aastore) : XX d m pc l (.null :: .int i :: .ref a :: st) (mk S I L R G) Q ↔ aqP (S a) S none i ∧ XX d m (pc + 1) l st (mk S I L (wr R a (up (R a) (ix i) none)) G) Q :=
  XX_memc (z0 := (st, mk S I L (wr R a (up (R a) (ix i) none)) G)) h1 rfl rfl rfl rfl rfl rfl (o_map (fun v => (st, v)) (fun v => x_aqN_mk))
theorem r_aqo {i : Int32} {o : Option Nat} (h1 : t_ins m pc = some .aastore) : XX d m pc l (va_rf o :: .int i :: .ref a :: st) (mk S I L R G) Q ↔ aqP (S a) S o i ∧ XX d m (pc + 1) l st (mk S I L (wr R a (up (R a) (ix i) o)) G) Q := by
  cases o with
  | none => exact r_aqn h1
  | some y => exact r_aqs h1
theorem r_ldc {v : Int32} (h1 : t_ins m pc = some (.ldc k)) (h2 : t_con (t_own m) k = some v) : XX d m pc l st A Q ↔ XX d m (pc + 2) l (.int v :: st) A Q := by
  have := XX_memc (d := d) (l := l) (st := st) (A := A) (Q := Q) (C := True) (z0 := (.int v :: st, A)) h1 rfl rfl rfl rfl rfl rfl (fun z => by
    show (match t_con (t_own m) k, t_str (t_own m) k with | some v, _ => some (Value.int v :: st, A) | none, some j => some (Value.ref (A.2.2.2 j) :: st, A) | none, none => none) = some z ↔ _
    rw [h2]; exact ⟨fun h => ⟨trivial, (Option.some.inj h).symm⟩, fun h => by rw [h.2]⟩)
  rw [this]; exact ⟨fun h => h.2, fun h => ⟨trivial, h⟩⟩
theorem r_lds {j : Nat} (h1 : t_ins m pc = some (.ldc k)) (h2 : t_con (t_own m) k = none) (h3 : t_str (t_own m) k = some j) : XX d m pc l st (mk S I L R G) Q ↔ XX d m (pc + 2) l (.ref (G.2.2 j) :: st) (mk S I L R G) Q := by
  have := XX_memc (d := d) (l := l) (st := st) (A := mk S I L R G) (Q := Q) (C := True) (z0 := (.ref (G.2.2 j) :: st, mk S I L R G)) h1 rfl rfl rfl rfl rfl rfl (fun z => by
    show (match t_con (t_own m) k, t_str (t_own m) k with | some v, _ => some (Value.int v :: st, mk S I L R G) | none, some j => some (Value.ref (G.2.2 j) :: st, mk S I L R G) | none, none => none) = some z ↔ _
    rw [h2, h3]; exact ⟨fun h => ⟨trivial, (Option.some.inj h).symm⟩, fun h => by rw [h.2]⟩)
  rw [this]; exact ⟨fun h => h.2, fun h => ⟨trivial, h⟩⟩
theorem r_ldw {v : Int32} (h1 : t_ins m pc = some (.ldc_w k)) (h2 : t_con (t_own m) k = some v) : XX d m pc l st A Q ↔ XX d m (pc + 3) l (.int v :: st) A Q := by
  have := XX_memc (d := d) (l := l) (st := st) (A := A) (Q := Q) (C := True) (z0 := (.int v :: st, A)) h1 rfl rfl rfl rfl rfl rfl (fun z => by
    show (match t_con (t_own m) k with | some v => some (Value.int v :: st, A) | none => none) = some z ↔ _
    rw [h2]; exact ⟨fun h => ⟨trivial, (Option.some.inj h).symm⟩, fun h => by rw [h.2]⟩)
  rw [this]; exact ⟨fun h => h.2, fun h => ⟨trivial, h⟩⟩
theorem r_ld2 {v : Int64} (h1 : t_ins m pc = some (.ldc2_w k)) (h2 : t_conL (t_own m) k = some v) : XX d m pc l st A Q ↔ XX d m (pc + 3) l (.long v :: st) A Q := by
  have := XX_memc (d := d) (l := l) (st := st) (A := A) (Q := Q) (C := True) (z0 := (.long v :: st, A)) h1 rfl rfl rfl rfl rfl rfl (fun z => by
    show (match t_conL (t_own m) k with | some v => some (Value.long v :: st, A) | none => none) = some z ↔ _
    rw [h2]; exact ⟨fun h => ⟨trivial, (Option.some.inj h).symm⟩, fun h => by rw [h.2]⟩)
  rw [this]; exact ⟨fun h => h.2, fun h => ⟨trivial, h⟩⟩
/-- a call of the JDK's that the plain machine does in one step -/
theorem x_calS_none {st : List Value} (h : t_cal (t_own m) k = none) : x_cal (t_own m) (.invokestatic k) st A = none := by
  show (match t_cal (t_own m) k with | some (kd, m', n) => _ | none => none) = none
  rw [h]
theorem x_calV_none {st : List Value} (h : t_cal (t_own m) k = none) : x_cal (t_own m) (.invokevirtual k) st A = none := by
  show (match t_cal (t_own m) k with | some (kd, m', n) => _ | none => none) = none
  rw [h]
theorem r_min {x y : Int32} (h1 : t_ins m pc = some (.invokestatic k)) (h2 : t_jdk (t_own m) k = some 1) (h0 : t_cal (t_own m) k = none) (h3 : x_words (.int y :: .int x :: st) ≤ 100) : XX d m pc l (.int y :: .int x :: st) A Q ↔ XX d m (pc + 3) l (.int (if y < x then y else x) :: st) A Q := by
  have := XX_memc (d := d) (l := l) (st := .int y :: .int x :: st) (A := A) (Q := Q) (C := True) (z0 := (.int (if y < x then y else x) :: st, A)) h1 rfl rfl rfl rfl rfl (x_calS_none h0) (fun z => by
    show (if x_words (.int y :: .int x :: st) ≤ 100 ∧ x_jS (t_jdk (t_own m) k) = true then x_jdk (t_own m) k (.int y :: .int x :: st) A else none) = some z ↔ _
    rw [h2, if_pos ⟨h3, rfl⟩]
    unfold x_jdk
    rw [h2]
    exact ⟨fun h => ⟨trivial, (Option.some.inj h).symm⟩, fun h => by rw [h.2]; rfl⟩)
  rw [this]; exact ⟨fun h => h.2, fun h => ⟨trivial, h⟩⟩
theorem r_max {x y : Int32} (h1 : t_ins m pc = some (.invokestatic k)) (h2 : t_jdk (t_own m) k = some 2) (h0 : t_cal (t_own m) k = none) (h3 : x_words (.int y :: .int x :: st) ≤ 100) : XX d m pc l (.int y :: .int x :: st) A Q ↔ XX d m (pc + 3) l (.int (if x < y then y else x) :: st) A Q := by
  have := XX_memc (d := d) (l := l) (st := .int y :: .int x :: st) (A := A) (Q := Q) (C := True) (z0 := (.int (if x < y then y else x) :: st, A)) h1 rfl rfl rfl rfl rfl (x_calS_none h0) (fun z => by
    show (if x_words (.int y :: .int x :: st) ≤ 100 ∧ x_jS (t_jdk (t_own m) k) = true then x_jdk (t_own m) k (.int y :: .int x :: st) A else none) = some z ↔ _
    rw [h2, if_pos ⟨h3, rfl⟩]
    unfold x_jdk
    rw [h2]
    exact ⟨fun h => ⟨trivial, (Option.some.inj h).symm⟩, fun h => by rw [h.2]; rfl⟩)
  rw [this]; exact ⟨fun h => h.2, fun h => ⟨trivial, h⟩⟩
theorem r_mil {x y : Int64} (h1 : t_ins m pc = some (.invokestatic k)) (h2 : t_jdk (t_own m) k = some 3) (h0 : t_cal (t_own m) k = none) (h3 : x_words (.long y :: .long x :: st) ≤ 100) : XX d m pc l (.long y :: .long x :: st) A Q ↔ XX d m (pc + 3) l (.long (if y < x then y else x) :: st) A Q := by
  have := XX_memc (d := d) (l := l) (st := .long y :: .long x :: st) (A := A) (Q := Q) (C := True) (z0 := (.long (if y < x then y else x) :: st, A)) h1 rfl rfl rfl rfl rfl (x_calS_none h0) (fun z => by
    show (if x_words (.long y :: .long x :: st) ≤ 100 ∧ x_jS (t_jdk (t_own m) k) = true then x_jdk (t_own m) k (.long y :: .long x :: st) A else none) = some z ↔ _
    rw [h2, if_pos ⟨h3, rfl⟩]
    unfold x_jdk
    rw [h2]
    exact ⟨fun h => ⟨trivial, (Option.some.inj h).symm⟩, fun h => by rw [h.2]; rfl⟩)
  rw [this]; exact ⟨fun h => h.2, fun h => ⟨trivial, h⟩⟩
theorem r_cp {b t kk jj : Nat} {sp dp n : Int32} (ha : S a = some (.inl (t, kk))) (hb : S b = some (.inl (t, jj))) (ht : t = 0 ∨ t = 2) (h1 : t_ins m pc = some (.invokestatic k)) (h2 : t_jdk (t_own m) k = some 7) (h0 : t_cal (t_own m) k = none) (h3 : x_words (.int n :: .int dp :: .ref b :: .int sp :: .ref a :: st) ≤ 100) : XX d m pc l (.int n :: .int dp :: .ref b :: .int sp :: .ref a :: st) (mk S I L R G) Q ↔ (a ≠ b ∧ ¬ sp < w 0 ∧ ¬ dp < w 0 ∧ ¬ n < w 0 ∧ ix sp + ix n ≤ kk ∧ ix dp + ix n ≤ jj) ∧ XX d m (pc + 3) l st (mk S (wr I b (va_cpy (I a) (I b) (ix sp) (ix dp) (ix n))) L R G) Q :=
  XX_memc (z0 := (st, mk S (wr I b (va_cpy (I a) (I b) (ix sp) (ix dp) (ix n))) L R G)) h1 rfl rfl rfl rfl rfl (x_calS_none h0) (fun z => by
    show (if x_words (.int n :: .int dp :: .ref b :: .int sp :: .ref a :: st) ≤ 100 ∧ x_jS (t_jdk (t_own m) k) = true then x_jdk (t_own m) k (.int n :: .int dp :: .ref b :: .int sp :: .ref a :: st) (mk S I L R G) else none) = some z ↔ _
    rw [h2, if_pos ⟨h3, rfl⟩]
    unfold x_jdk
    rw [h2]
    refine o_map (fun A' => (st, A')) (fun v => ?_) z
    unfold x_cpI
    have h1 : t ≠ 1 := by omega
    have h2 : ¬ (4 ≤ t ∧ t < 11) := by omega
    rw [mk_arrI ha h1 h2, mk_arrI hb h1 h2]
    dsimp only
    rw [mk_setI hb h1 h2]
    refine o_if ?_ v
    have e : ((t == 0 || t == 2) : Bool) = true := by rcases ht with h | h <;> (rw [h]; rfl)
    rw [e, beq_self_eq_true, ← w_0]
    simp [and_assoc])
theorem x_str_mk {v : Nat × (Nat → Int32)} : x_str (mk S I L R G) a = some v ↔ ∃ n, S a = some (.inl (99, n)) ∧ v = (n, I a) := by
  unfold x_str
  rcases k_cases (S a) with h | ⟨c, h⟩ | ⟨n, h⟩ | ⟨t, n, h, h1, h2⟩ | ⟨t, n, h, h1, h2⟩
  · rw [mk_none h, h]; exact ⟨fun h => by (cases h), fun ⟨n, h, _⟩ => by (cases h)⟩
  · rw [mk_obj h, h]; exact ⟨fun h => by (cases h), fun ⟨n, h, _⟩ => by (cases h)⟩
  · rw [mk_arrL h, h]; exact ⟨fun h => by (cases h), fun ⟨n, h, _⟩ => by (cases h)⟩
  · rw [mk_arrR h h1 h2, h]
    refine ⟨fun h => ?_, fun ⟨n, h, _⟩ => by cases h; omega⟩
    split at h
    · rename_i e; cases e
    · cases h
  · rw [mk_arrI h h1 h2, h]
    by_cases ht : t = 99
    · subst ht
      exact ⟨fun h => ⟨n, rfl, (Option.some.inj h).symm⟩, fun ⟨k, h, e⟩ => by cases h; rw [e]; rfl⟩
    · refine ⟨fun h => ?_, fun ⟨k, h, e⟩ => by cases h; exact absurd rfl ht⟩
      split at h
      · rename_i e; cases e; exact absurd rfl ht
      · cases h
theorem r_sln (h1 : t_ins m pc = some (.invokevirtual k)) (h2 : t_jdk (t_own m) k = some 8) (h0 : t_cal (t_own m) k = none) (h3 : x_words (.ref a :: st) ≤ 100) : XX d m pc l (.ref a :: st) (mk S I L R G) Q ↔ strP (S a) (fun n => XX d m (pc + 3) l (.int (Int32.ofNat n) :: st) (mk S I L R G) Q) := by
  rw [XX_mem h1 rfl rfl rfl rfl rfl (x_calV_none h0)]
  show (∃ z, (if x_words (.ref a :: st) ≤ 100 ∧ x_jV (t_jdk (t_own m) k) = true then x_jdk (t_own m) k (.ref a :: st) (mk S I L R G) else none) = some z ∧ XX d m (pc + 3) l z.1 z.2 Q) ↔ _
  rw [h2, if_pos ⟨h3, rfl⟩]
  unfold x_jdk
  rw [h2]
  show (∃ z, (x_str (mk S I L R G) a).map (fun z => (Value.int (Int32.ofNat z.1) :: st, mk S I L R G)) = some z ∧ _) ↔ _
  constructor
  · rintro ⟨z, hz, h⟩
    obtain ⟨v, hv, rfl⟩ := Option.map_eq_some_iff.mp hz
    obtain ⟨n, hs, rfl⟩ := x_str_mk.mp hv
    rw [hs]; exact h
  · intro h
    unfold strP at h
    split at h
    · rename_i n hs
      exact ⟨_, by rw [x_str_mk.mpr ⟨n, hs, rfl⟩]; rfl, h⟩
    · exact h.elim
theorem r_sch {i : Int32} (h1 : t_ins m pc = some (.invokevirtual k)) (h2 : t_jdk (t_own m) k = some 9) (h0 : t_cal (t_own m) k = none) (h3 : x_words (.int i :: .ref a :: st) ≤ 100) : XX d m pc l (.int i :: .ref a :: st) (mk S I L R G) Q ↔ strP (S a) (fun n => x_in i n = true ∧ XX d m (pc + 3) l (.int (I a (ix i)) :: st) (mk S I L R G) Q) := by
  rw [XX_mem h1 rfl rfl rfl rfl rfl (x_calV_none h0)]
  show (∃ z, (if x_words (.int i :: .ref a :: st) ≤ 100 ∧ x_jV (t_jdk (t_own m) k) = true then x_jdk (t_own m) k (.int i :: .ref a :: st) (mk S I L R G) else none) = some z ∧ XX d m (pc + 3) l z.1 z.2 Q) ↔ _
  rw [h2, if_pos ⟨h3, rfl⟩]
  unfold x_jdk
  rw [h2]
  show (∃ z, (match x_str (mk S I L R G) a with | some (n, f) => if x_in i n then some (Value.int (f i.toNatClampNeg) :: st, mk S I L R G) else none | none => none) = some z ∧ _) ↔ _
  constructor
  · rintro ⟨z, hz, h⟩
    cases hv : x_str (mk S I L R G) a with
    | none => rw [hv] at hz; cases hz
    | some v =>
      rw [hv] at hz
      obtain ⟨n, hs, rfl⟩ := x_str_mk.mp hv
      dsimp only at hz
      split at hz
      · rename_i hx; cases hz; rw [hs]; exact ⟨hx, h⟩
      · cases hz
  · intro h
    unfold strP at h
    split at h
    · rename_i n hs
      refine ⟨(.int (I a (ix i)) :: st, mk S I L R G), ?_, h.2⟩
      rw [x_str_mk.mpr ⟨n, hs, rfl⟩]
      dsimp only
      rw [if_pos h.1]
    · exact h.elim
end

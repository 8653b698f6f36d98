/-- the law, on the plain machine -/
def y_law : Prop := ∀ (b L lo : Nat) (xs : Nat → Int32) (str : Nat → Nat), L ≤ 3072 → y_Str b lo str →
  XC 1307 268 [.ref b] (y_A0 b L xs lo str) (fun o A => o = .inl (some (.int 1)) ∧ A.2.1 - lo ≤ 601024 ∧ A.2.2.1 ≤ 7293034)
theorem y_law_holds : y_law := fun b L lo xs str hL hs => lw_holds hL hs
theorem y_sr_all : ∀ (j o i : Nat) (cs : List Nat), t_sr[j]? = some (o, i, cs) → Cond.stringRef (y_own o) i (y_txt j) ∈ lw_tbl
  | 0, _, _, _, h => by cases h; exact y_sr_0
  | 1, _, _, _, h => by cases h; exact y_sr_1
  | 2, _, _, _, h => by cases h; exact y_sr_2
  | 3, _, _, _, h => by cases h; exact y_sr_3
  | 4, _, _, _, h => by cases h; exact y_sr_4
  | 5, _, _, _, h => by cases h; exact y_sr_5
  | 6, _, _, _, h => by cases h; exact y_sr_6
  | 7, _, _, _, h => by cases h; exact y_sr_7
  | 8, _, _, _, h => by cases h; exact y_sr_8
  | 9, _, _, _, h => by cases h; exact y_sr_9
  | 10, _, _, _, h => by cases h; exact y_sr_10
  | 11, _, _, _, h => by cases h; exact y_sr_11
  | 12, _, _, _, h => by cases h; exact y_sr_12
  | 13, _, _, _, h => by cases h; exact y_sr_13
  | k + 14, _, _, _, h => by cases h
theorem y_ffof {args : Array Value} {s : State} {t : Term} {a : Nat} {cell : Cell} {n d : String} {v : Value} (ht : t.eval args s none [] s = some (.ref a)) (hc : s.heap[a]? = some cell) (hv : (Term.field t "java/lang/String" n d).eval args s none [] s = some v) : cell.vm ≠ .unknown ∧ ∃ (cf : ClassId) (k2 : Class) (i : Nat) (f : Field), s.fieldFound? "java/lang/String" n d = some (cf, k2, i, f) ∧ f.isStatic = false ∧ s.vm.assignable cell.cls cf = true ∧ cell.slots[f.slot]? = some v := by
  cases hfo : s.fieldFound? "java/lang/String" n d with
  | none =>
    rw [va_fe ht] at hv
    simp [State.fieldOf?, State.fieldNamed?, hfo] at hv
  | some x =>
    obtain ⟨cf, k, fi, f⟩ := x
    obtain ⟨g1, cell', g2, g3, -, g5, g6⟩ := Term.field_spec hfo ht hv
    cases hc.symm.trans g2
    exact ⟨g3, cf, k, fi, f, rfl, g1, g5, g6⟩
theorem y_sxof {args : Array Value} {s : State} {t : Term} {a v lo : Nat} {z : Int32} {A : Nat → Prop} (ha : a < lo) (ht : t.eval args s none [] s = some (.ref a)) (hex : (Cond.exactly t "java/lang/String").before args s = true) (hco : (Cond.eq (.field t "java/lang/String" "coder" "B") (.int 0)).before args s = true) (hle : (Cond.eq (.length (.field t "java/lang/String" "value" "[B")) (.int z)).before args s = true) (hva : va_OF "java/lang/String" "value" "[B" (.ref v) a A s s.heap) : y_sx lo a v s s.heap := by
  obtain ⟨a', c, cell, k, q1, q2, q3, q4, q5, q6, q7⟩ := Cond.exactly_spec (args := args) (first := s) (o := none) (s := s) (idx := []) (t := t) (cls := "java/lang/String") hex
  cases ht.symm.trans q1
  subst q6
  obtain ⟨w1, w2⟩ := y_ffof ht q3 (va_eqt hco)
  obtain ⟨d, -, hd, -⟩ := Term.length_spec (va_eqt hle)
  obtain ⟨-, cf, k2, i, f, g1, g2, g3, g4⟩ := y_ffof ht q3 hd
  obtain ⟨cf', k2', i', f', cell', e1, e2, e3, e4, e5, -⟩ := hva
  cases g1.symm.trans e1
  cases q3.symm.trans e3
  cases g4.symm.trans e5
  exact ⟨ha, cell, k, q3, q2, q4, q5, w1, q7, w2, ⟨cf, k2, i, f, g1, g2, g3, g4⟩⟩
theorem y_spc_str {lo b : Nat} {s : State} {H : Heap} {adK adV : Nat → Nat} {A : Nat → Prop} (h : vk_S 9 y_len y_byt adK adV (fun q => lo ≤ q) s H) (hz : y_jz lo s H) (hx : ∀ i, i < 9 → y_sx lo (adK i) (adV i) s H) (i : Nat) (hi : i < 9) (n : Nat) (hn : n = ((t_chr i).map Int32.ofNat).length) (hr : ∀ b ∈ (t_chr i).map Int32.ofNat, 0 ≤ b ∧ b ≤ 127) (hbl : ((t_chr i).map Int32.ofNat).length < 1000) (e1 : y_len.getD i 0 = ((t_chr i).map Int32.ofNat).length) (e2 : y_byt.getD i [] = (t_chr i).map Int32.ofNat) : y_spc lo s (adK i) (.inl (99, n, .inl (y_tx i))) H := by
  refine ⟨(t_chr i).map Int32.ofNat, adV i, hn, rfl, hr, ⟨fun k hk => ?_, fun i j hi hj _ => by omega⟩, hz, hx i hi, hbl⟩
  have h0 : k = 0 := by omega
  subst h0
  have := h.1 i hi
  rw [e1, e2] at this
  exact this
theorem y_apart {s : State} {H : Heap} {a b L : Nat} {xs : Nat → Int32} {A : Nat → Prop} {v : Nat} (h : va_X b L xs s H) (h1 : va_OF "java/lang/String" "value" "[B" (.ref v) a A s H) : b ≠ a := by
  rintro rfl
  obtain ⟨scr, g1, -, -, g4, g5⟩ := h
  obtain ⟨cf, k, i, f, cell, -, -, f3, -, f5, -⟩ := h1
  cases Option.some.inj (g1.symm.trans f3)
  have hlt : f.slot < L := by
    rw [← g4]
    exact (Array.getElem?_eq_some_iff.mp f5).1
  rw [g5 _ hlt] at f5
  cases f5
theorem y_eqref {s : State} {args : Array Value} {t u : Term} {a : Nat} (h : (Cond.eq t u).before args s = true) (ht : t.eval args s none [] s = some (.ref a)) : u.eval args s none [] s = some (.ref a) := by
  simp only [Cond.before, Cond.holds, Cond.value, ht] at h
  cases hu : u.eval args s none [] s with
  | none => simp [hu] at h
  | some w =>
    rw [hu] at h
    cases w <;> simp at h
    rw [h]
theorem y_Nof {s : State} {args : Array Value} (hts : ∀ w ∈ lw_tbl, w.before args s = true) (hg : ∀ c ∈ y_FL, c.before args s = true) : y_N s := by
  refine ⟨fun w hw hg => ?_, va_Nc.of (hg _ y_so8)⟩
  have h1 := hts w hw
  cases w with
  | methodLinkNest a b c d => exact va_tabs rfl rfl h1
  | fieldLinkNest a b c d e f => exact va_tabs rfl rfl h1
  | castable a b => exact va_tabs rfl rfl h1
  | declares a => exact va_tabs rfl rfl h1
  | arrayOver t => exact h1
  | _ => cases hg
theorem y_start {p : Program} {s : State} {m : MethodId} {meth : Method} {c : Code} {b L : Nat} {xs : Nat → Int32} (C0 : lw_At p s m meth c b L xs) :
    ∃ (D : va_G) (dA : Nat → ClassId) (str : Nat → Nat), y_Str b s.heap.size str ∧ y_N s ∧ y_V D dA s.heap.size s s.heap (y_A0 b L xs s.heap.size str) s.heap [] := by
  obtain ⟨-, -, -, -, -, hts, hX, hb, -, hgn⟩ := C0
  have hg : ∀ c ∈ y_FL, c.before #[.ref b] s = true := by
    rw [Cond.before_and, Bool.and_eq_true] at hgn
    exact flat_of_before _ hgn.2
  have hA : ∀ a : Nat, a < s.heap.size → ¬ (fun q => s.heap.size ≤ q) a := fun a h => Nat.not_le.mpr h
  obtain ⟨D, dA, hK⟩ := y_know hts
  obtain ⟨adK, adV, hS, hev⟩ := vk_Sof (args := #[.ref b]) (s := s) (N := 9) (tm := y_tm) (len := y_len) (byt := y_byt) (A := fun q => s.heap.size ≤ q) (by decide +kernel)
    (fun i hi => hg _ (List.mem_of_getElem? (y_so1 i hi))) (fun i hi => hg _ (List.mem_of_getElem? (y_so2 i hi))) (fun i hi => hg _ (List.mem_of_getElem? (y_so3 i hi))) (fun i hi => hg _ (List.mem_of_getElem? (y_so4 i hi)))
    (fun i hi j hj => hg _ (List.mem_of_getElem? (y_so5 i hi j hj))) (fun i j hi hj hne => by
      rcases Nat.lt_or_gt_of_ne hne with h | h
      · exact Or.inl (hg _ (List.mem_of_getElem? (y_so6 j hj i h)))
      · exact Or.inr (hg _ (List.mem_of_getElem? (y_so6 i hi j h)))) hA
  have hlt : ∀ i, i < 9 → adK i < s.heap.size := fun i hi => by
    obtain ⟨cell, h1, -⟩ := (hS.1 i hi).1
    exact (Array.getElem?_eq_some_iff.mp h1).1
  have hap : ∀ i, i < 9 → b ≠ adK i := fun i hi => y_apart hX (hS.1 i hi).2.2.1
  have hz : y_jz s.heap.size s s.heap := ⟨va_Zof (hts _ y_so10.2.2.1) (hts _ y_so10.2.2.2.2.1) (va_eqt (hg _ y_so10.1)) hA, va_Zqof (hts _ y_so10.2.2.2.1) (hts _ y_so10.2.2.2.2.2) (hg _ y_so10.2.1) hA⟩
  have hx : ∀ i, i < 9 → y_sx s.heap.size (adK i) (adV i) s s.heap := fun i hi => y_sxof (hlt i hi) (hev i hi) (hg _ (List.mem_of_getElem? (y_so1 i hi))) (hg _ (List.mem_of_getElem? (y_so2 i hi))) (hg _ (List.mem_of_getElem? (y_so4 i hi))) (hS.1 i hi).2.2.1
  let str : Nat → Nat := fun j => if j < 9 then adK j else adK (j - 8)
  have hstr : ∀ j, j < 14 → (y_tm j).eval #[.ref b] s none [] s = some (.ref (str j)) := by
    intro j hj
    by_cases h9 : j < 9
    · show _ = some (Value.ref (if j < 9 then adK j else adK (j - 8)))
      rw [if_pos h9]
      exact hev j h9
    · show _ = some (Value.ref (if j < 9 then adK j else adK (j - 8)))
      rw [if_neg h9]
      have h5 : j - 9 < 5 := by omega
      have := y_eqref (hg _ (y_so7 (j - 9) h5)) (hev (j - 9 + 1) (by omega))
      rw [show j - 9 + 9 = j by omega, show j - 9 + 1 = j - 8 by omega] at this
      exact this
  have hsl : ∀ j, j < 14 → str j < s.heap.size ∧ b ≠ str j := by
    intro j hj
    show (if j < 9 then adK j else adK (j - 8)) < _ ∧ b ≠ (if j < 9 then adK j else adK (j - 8))
    split
    · exact ⟨hlt _ ‹_›, hap _ ‹_›⟩
    · exact ⟨hlt _ (by omega), hap _ (by omega)⟩
  refine ⟨D, dA, str, ⟨hb, hsl, fun i j h1 h2 h3 => ?_, rfl, rfl, rfl, rfl, rfl⟩, y_Nof hts hg, ⟨rfl, Nat.le_refl _, fun a e ha he => ?_⟩, ⟨fun a e ha he => ?_, fun j o i cs hj => ?_, ?_, ?_⟩, hK, Nat.le_refl _, fun _ _ _ => rfl, fun _ h => nomatch h⟩
  · show (if i < 9 then adK i else adK (i - 8)) ≠ (if j < 9 then adK j else adK (j - 8))
    rw [if_pos (by omega), if_pos (by omega)]
    intro h
    have := hS.2 i j (by omega) (by omega) h
    omega
  · exfalso
    unfold y_A0 at he
    dsimp only at he
    have hne : ∀ j, j < 14 → a ≠ str j := fun j hj h => by have := (hsl j hj).1; omega
    rw [if_neg (by omega), if_neg (hne 1 (by omega)), if_neg (hne 2 (by omega)), if_neg (hne 3 (by omega)), if_neg (hne 4 (by omega)), if_neg (hne 5 (by omega))] at he
    cases he
  · unfold y_A0 at he
    dsimp only at he
    split at he
    · rename_i h; subst h; cases he; exact hX
    · split at he
      · rename_i h; subst h; cases he; exact y_spc_str (A := fun _ => True) (b := b) hS hz hx 1 (by omega) 8 (by decide +kernel) (by decide +kernel) (by decide +kernel) (by decide +kernel) (by decide +kernel)
      · split at he
        · rename_i h; subst h; cases he; exact y_spc_str (A := fun _ => True) (b := b) hS hz hx 2 (by omega) 3 (by decide +kernel) (by decide +kernel) (by decide +kernel) (by decide +kernel) (by decide +kernel)
        · split at he
          · rename_i h; subst h; cases he; exact y_spc_str (A := fun _ => True) (b := b) hS hz hx 3 (by omega) 2 (by decide +kernel) (by decide +kernel) (by decide +kernel) (by decide +kernel) (by decide +kernel)
          · split at he
            · rename_i h; subst h; cases he; exact y_spc_str (A := fun _ => True) (b := b) hS hz hx 4 (by omega) 5 (by decide +kernel) (by decide +kernel) (by decide +kernel) (by decide +kernel) (by decide +kernel)
            · split at he
              · rename_i h; subst h; cases he; exact y_spc_str (A := fun _ => True) (b := b) hS hz hx 5 (by omega) 2 (by decide +kernel) (by decide +kernel) (by decide +kernel) (by decide +kernel) (by decide +kernel)
              · cases he
  · have hj14 : j < 14 := by
      have := (List.getElem?_eq_some_iff.mp hj).1
      exact this
    have h := hstr j hj14
    have e1 : t_sr.getD j (0, 0, []) = (o, i, cs) := by rw [List.getD_eq_getElem?_getD, hj]; rfl
    unfold y_tm at h
    rw [e1] at h
    exact vk_R.of (hts _ (y_sr_all j o i cs hj)) h
  · exact vx_Zqof (hts _ y_so9.2.2.1) (hts _ y_so9.2.2.2.2) (hg _ y_so9.1) hA
  · exact vx_Zqof (hts _ y_so9.2.2.2.1) (hts _ y_so9.2.2.2.2) (hg _ y_so9.2.1) hA
theorem whole_start {p : Program} {e : Env} {s : State} {m : MethodId} {below : List Frame} {meth : Method} {c : Code} (l : Launch) (hflags : l.flags = flags0) {b L : Nat} {xs : Nat → Int32} (hL : L ≤ 3072) (C0 : lw_At p s m meth c b L xs) : W p l e room_1 s m #[Value.ref b] below meth c s.heap [] 0 0 (lw_Z below #[Value.ref b] s) (entryFrame m ([Value.ref b] : List Value).toArray 8) := by
  have hl : l.stackTraces = false := by
    unfold Launch.stackTraces
    rw [hflags]
    decide +kernel
  obtain ⟨D, dA, str, hS, hN, hV⟩ := y_start C0
  obtain ⟨h1, h2, h3, h4, h5, h6, h7, h8, h9, -⟩ := C0
  obtain ⟨f, o, A', hrun, ho, hcl, hsl⟩ := y_law_holds b L s.heap.size xs str hL hS
  have C : y_C p s m #[.ref b] meth c 268 := ⟨h1, h2, h4, h5, fun w hw _ => h6 w hw, h9, h3, fun h => absurd h (by decide +kernel)⟩
  have hcl' : 0 + (A'.2.1 - (y_A0 b L xs s.heap.size str).2.1) ≤ 601024 := by rw [Nat.zero_add]; exact hcl
  have hsl' : 0 + (A'.2.2.1 - (y_A0 b L xs s.heap.size str).2.2.1) ≤ 7293034 := by rw [Nat.zero_add]; exact hsl
  have hm1 : (x_arg [.ref b]).length ≤ t_maxl 268 := by
    have hm : t_maxl 268 = 8 := by decide +kernel
    rw [hm]
    exact Nat.le_of_ble_eq_true rfl
  rw [lg_entry_eq]
  refine (y_all hl D dA s.heap.size f).1 1307 268 0 (x_entry 268 [.ref b]) [] _ o A' hrun p e room_1 s m #[.ref b] below meth c s.heap [] 0 0 _ _ C hN hV (y_entry (m := 268) (as := [.ref b]) hm1 (lv_entry [.ref b] (n := 8) (Nat.le_of_ble_eq_true rfl))) (x_entry_len hm1) (by decide) (by decide) hcl' hsl' ?_ ?_ ?_ ?_
  · intro pc i ls st H1 locs1 c1 n1 v hd hf hv V1 hc hs
    rw [ho] at hv
    cases hv
    refine va_forget V1.2.2.2.2.2 (W.widen (Nat.le_trans hc hcl') (Nat.le_trans hs hsl') ?_)
    unfold x_fin at hf
    split at hf
    · split at hf <;> cases hf
    · split at hf
      · cases hf
        exact lw_ret h1 h2 h3 h9 hd
      · split at hf
        · cases hf
          exact lw_ret h1 h2 h3 h9 hd
        · cases hf
    · split at hf <;> cases hf
    · split at hf <;> cases hf
    · split at hf <;> cases hf
    · cases hf
  · intro pc i L ls st B H1 locs1 c1 n1 k _ _ hv
    rw [ho] at hv
    cases hv
  · intro pc ls rest H1 locs1 c1 n1 k q ce _ hv
    rw [ho] at hv
    cases hv
  · intro pc k h ls rest H1 locs1 c1 n1 q ce hh
    have h0 : t_han 268 = [] := by decide +kernel
    unfold x_hnd at hh
    rw [h0] at hh
    cases hh

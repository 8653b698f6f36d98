/-! the plain machine's run is the machine's: one step more -/
theorem y_dec3 {m pc : Nat} {i : Instr} (h : t_ins m pc = some i) (hs : y_swt i = false) : decode (y_by m) pc = .ok (i, x_len i) := by
  obtain ⟨-, n, hd, hn⟩ := y_dec h
  rcases hn with rfl | hn
  · exact hd
  · rw [hs] at hn; cases hn
theorem y_swt_i {i : Instr} (h : y_swt i = true) : (∃ a b d o, i = .tableswitch a b d o) ∨ ∃ a b, i = .lookupswitch a b := by
  cases i <;> first | exact Or.inl ⟨_, _, _, _, rfl⟩ | exact Or.inr ⟨_, _, rfl⟩ | cases h
theorem x_stk_swt {i : Instr} {st st' : List Value} (h : x_stk i st = some st') : y_swt i = false := by
  cases i <;> first | rfl | (simp [x_stk] at h)
theorem x_lcl_swt {i : Instr} {l l' : Lc} {st st' : List Value} (h : x_lcl i l st = some (l', st')) : y_swt i = false := by
  cases i <;> first | rfl | (simp [x_lcl] at h)
theorem x_mem_swt {i : Instr} {m : Nat} {st st' : List Value} {A A' : Hp} (h : x_mem m i st A = some (st', A')) : y_swt i = false := by
  cases i <;> first | rfl | (simp [x_mem] at h)
theorem x_fin_swt {i : Instr} {m : Nat} {st : List Value} {v : Option Value} (h : x_fin m i st = some v) : y_swt i = false := by
  cases i <;> first | rfl | (simp [x_fin] at h)
theorem x_cal_swt {i : Instr} {o : Nat} {st : List Value} {A : Hp} {z : Nat × List Value × List Value} (h : x_cal o i st A = some z) : y_swt i = false := by
  cases i <;> first | rfl | (simp [x_cal] at h)
theorem t_find5 {o i : Nat} {z : Nat × Nat × Nat} (h : t_cal o i = some z) : (o, i, z) ∈ t_cl := t_find3 h
theorem y_cl_lt : ∀ e ∈ t_cl, e.2.2.2.1 < 273 ∧ e.2.2.2.1 ≠ 268 := by decide +kernel
theorem y_good_ws {m : Nat} (hc : y_cdok m) : GoodIn (lw_tbl.filter goodWord) (y_ws m) := by
  obtain ⟨g1, g2⟩ := y_good_in hc (fun h => by unfold y_isL at h; simpa using h)
  intro w hw
  rcases List.mem_cons.mp hw with rfl | hw
  · exact ⟨List.mem_filter.mpr ⟨g1, g2⟩, good_of_word g2⟩
  · exact ⟨hw, good_of_word (List.mem_filter.mp hw).2⟩
theorem y_recv_i {A : Hp} {m' : Nat} {as : List Value} (h : x_recv A m' as = true) : ∃ a bs fs, as = .ref a :: bs ∧ A.1 a = some (.inr (t_own m', fs)) := by
  unfold x_recv at h
  split at h
  · rename_i a bs
    obtain ⟨fs, hfs⟩ := x_cls_i (beq_iff_eq.mp h)
    exact ⟨a, bs, fs, rfl, hfs⟩
  · cases h
theorem y_nestL : ∀ e ∈ t_cl, 3 ≤ e.2.2.1 → ¬ y_isL e.2.2.2.1 = true := by decide +kernel
theorem y_virtL : ∀ e ∈ t_cl, (e.2.2.1 = 1 ∨ e.2.2.1 = 4 ∨ e.2.2.1 = 2 ∨ e.2.2.1 = 3) → ¬ y_isL e.2.2.2.1 = true := by decide +kernel
theorem y_initR : ∀ e ∈ t_cl, (e.2.2.1 = 2 ∨ e.2.2.1 = 3) → y_rt e.2.2.2.1 = none := by decide +kernel
theorem y_own_lt : ∀ m : Nat, m < 273 → t_own m < 15 := by decide +kernel
theorem y_iniall (k : Nat) (h : k < 15) : Cond.initialized (y_own k) ∈ lw_tbl := by
  match k, h with
  | 0, _ => exact y_ini_0
  | 1, _ => exact y_ini_1
  | 2, _ => exact y_ini_2
  | 3, _ => exact y_ini_3
  | 4, _ => exact y_ini_4
  | 5, _ => exact y_ini_5
  | 6, _ => exact y_ini_6
  | 7, _ => exact y_ini_7
  | 8, _ => exact y_ini_8
  | 9, _ => exact y_ini_9
  | 10, _ => exact y_ini_10
  | 11, _ => exact y_ini_11
  | 12, _ => exact y_ini_12
  | 13, _ => exact y_ini_13
  | 14, _ => exact y_ini_14
  | k + 15, h => exact absurd h (by omega)
set_option maxRecDepth 20000 in
theorem y_rooms {d mc ms z : Nat} {R : Room} (hz : z ≤ 40) (hfr : d + 1 + 9 ≤ R.frames) (hlo : 64 * (d + 1) + 300 ≤ R.locals) : (y_rm d mc ms).frames + 1 ≤ R.frames ∧ 8 + (z + 11) + (y_rm d mc ms).locals ≤ R.locals := by
  unfold y_rm
  dsimp only
  exact ⟨by omega, by omega⟩
section Y20
variable {p : Program} {l : Launch} {e : Env} {R : Room} {s : State} {m : MethodId} {args : Array Value} {below : List Frame} {meth : Method} {c : Code} {H : Heap} {locs : List Loc} {cells slots : Nat} {Q : State → Prop}
variable {pc mm : Nat} {ls : Array Slot} {D : va_G} {dA : Nat → ClassId} {lo : Nat} {A : Hp}
/-- a call's run -/
theorem y_call {f d m' : Nat} {i : Instr} {L : Lc} {st as r : List Value} {o : XO} {B : Hp} (hM : y_M l D dA lo f) (C : y_C p s m args meth c mm) (N : y_N s) (V : y_V D dA lo s s.heap A H locs) (hl : y_L L ls) (hL : L.length = t_maxl mm) (hfr : d + 1 + 9 ≤ R.frames) (hlo : 64 * (d + 1) + 300 ≤ R.locals)
    (hi : t_ins mm pc = some i) (hc : x_cal (t_own mm) i st A = some (m', as, r)) (hr : x_run f d m' 0 (x_entry m' as) [] A = some (o, B)) (hcl : cells + (B.2.1 - A.2.1) ≤ R.cells) (hsl : slots + (B.2.2.1 - A.2.2.1) ≤ R.slots) :
    vx_Run p l e R s m args below meth c H locs cells slots (B.2.1 - A.2.1) (B.2.2.1 - A.2.2.1) (F0 m pc ls st) r (y_Q D dA lo o B as.toArray) (y_X D dA lo o B) (fun q => lo ≤ q) := by
  obtain ⟨hx, hb, hml, hown, hts, -, -, -⟩ := C
  have hd := y_dec3 hi (x_cal_swt hc)
  have hsize : ls.size = t_maxl mm := by rw [hl.1, hL]
  have S : CallFix p m c (y_by mm) (t_maxl mm) s args (lw_tbl.filter goodWord) (y_own (t_own mm)) := ⟨hx, hb, hml, hown, fun w hw => hts w (List.mem_filter.mp hw).1 (by unfold y_gw; rw [(List.mem_filter.mp hw).2]; rfl)⟩
  have hIn : ∀ (av : Array Value), av = as.toArray → ∀ U : State, U.heap = H → s.WarmedH U.vm → y_In D dA lo as A av U := fun av hav U hU hW => ⟨hav, by rw [hU]; exact V.1, by rw [hU]; exact V.2.1.warm hW, va_K.moved hW.alike V.2.2.1, N.warm hW⟩
  have rooms : ∀ (m' : Nat), m' < 273 → (y_rm d (B.2.1 - A.2.1) (B.2.2.1 - A.2.2.1)).frames + 1 ≤ R.frames ∧ 8 + (t_maxl m' + 11) + (y_rm d (B.2.1 - A.2.1) (B.2.2.1 - A.2.2.1)).locals ≤ R.locals := fun m' hm' => by
    exact y_rooms (y_cls m' hm').2.2.2 hfr hlo
  have hws : ∀ m', y_cdok m' → ∀ w ∈ y_ws m', ∀ (a' : Array Value) (U : State), s.WarmedH U.vm → w.before a' U = true := fun m' hm' => pay_in S.2.2.2.2 (y_good_ws hm')
  have hini : ∀ m', m' < 273 → (Cond.initialized (y_nm m').cls).before args s = true := fun m' hm' => by
    rw [(y_cls m' hm').1]
    exact hts _ (y_iniall (t_own m') (y_own_lt m' hm')) rfl
  have args_len : ∀ {n : Nat} {y : MethodName}, (parseMethodDescriptor y.desc).map (fun d => d.parameters.length) = some n → ∀ sig, parseMethodDescriptor y.desc = some sig → n = sig.parameters.length := fun h sig hs => by
    rw [hs] at h
    exact (Option.some.inj h).symm
  unfold x_cal at hc
  split at hc
  · -- static
    split at hc
    · rename_i kd m1 n ht
      split at hc
      · rename_i as1 r1 hp
        split at hc
        · rename_i hcd
          cases hc
          simp only [Bool.and_eq_true, Bool.or_eq_true, beq_iff_eq, decide_eq_true_eq] at hcd
          obtain ⟨⟨hkd, hw8⟩, hfit⟩ := hcd
          obtain ⟨hn, rfl⟩ := x_pop_i _ _ _ _ hp
          have hmem := t_find5 ht
          obtain ⟨c1, c2, c3, c4⟩ := y_cl _ hmem
          obtain ⟨lt1, lt2⟩ := y_cl_lt _ hmem
          dsimp only at c1 c2 c3 c4 lt1 lt2
          have hMet := hM d m' as A B o lt1 lt2 hfit hr
          have hst : (Cond.static (y_nm m')).before args s = true := by
            rcases c4 with ⟨-, h⟩ | ⟨h, -⟩ | ⟨h, -⟩
            · exact hts _ h rfl
            · omega
            · omega
          have hcls := y_cls m' lt1
          rcases c3 with ⟨k3, hlk⟩ | ⟨k3, host, hlk⟩
          · by_cases hL9 : y_isL m' = true
            · have hcw : y_cw m' = .codeWith (y_nm m') (y_by m') (t_maxl m') (y_rt m') (y_hh m') := by unfold y_cw; rw [if_pos hL9]
              refine vx_runSX (hh := y_hh m') S hMet ⟨⟨rfl, rfl, (rooms m' lt1).1, (rooms m' lt1).2, hws m' c1, by rw [← hcw]; exact List.mem_cons_self⟩, hws m' c1 _ (by rw [← hcw]; exact List.mem_cons_self) _ _ (State.WarmedH.refl s), hini m' lt1, hcls.2.2.1, args_len c2, hts _ hlk rfl, hst⟩ ⟨y_In.blind, fun U hU hW => hIn _ rfl U hU hW⟩ rfl hn hsize rfl (by show 2 * 0 + _ ≤ _; unfold x_words at hw8; omega) hd ⟨hcl, hsl⟩
            · have hcw : y_cw m' = .code (y_nm m') (y_by m') (t_maxl m') (y_rt m') := by unfold y_cw; rw [if_neg hL9]
              refine vx_runS S hMet ⟨⟨rfl, rfl, (rooms m' lt1).1, (rooms m' lt1).2, hws m' c1, by rw [← hcw]; exact List.mem_cons_self, hws m' c1 _ (by rw [← hcw]; exact List.mem_cons_self) _ _ (State.WarmedH.refl s), hini m' lt1, hcls.2.2.1, args_len c2, hts _ hlk rfl⟩, hst⟩ ⟨y_In.blind, fun U hU hW => hIn _ rfl U hU hW⟩ rfl hn hsize rfl (by show 2 * 0 + _ ≤ _; unfold x_words at hw8; omega) hd ⟨hcl, hsl⟩
          · have hL9 : ¬ y_isL m' = true := y_nestL _ hmem (by dsimp only; omega)
            have hcw : y_cw m' = .code (y_nm m') (y_by m') (t_maxl m') (y_rt m') := by unfold y_cw; rw [if_neg hL9]
            refine vx_runSN (host := host) S hMet ⟨⟨⟨rfl, rfl, (rooms m' lt1).1, (rooms m' lt1).2, hws m' c1, by rw [← hcw]; exact List.mem_cons_self⟩, hws m' c1 _ (by rw [← hcw]; exact List.mem_cons_self) _ _ (State.WarmedH.refl s), hini m' lt1, hcls.2.2.1, args_len c2, hts _ hlk rfl⟩, hst, trivial⟩ ⟨y_In.blind, fun U hU hW => hIn _ rfl U hU hW⟩ rfl hn hsize rfl (by show 2 * 0 + _ ≤ _; unfold x_words at hw8; omega) hd ⟨hcl, hsl⟩
        · cases hc
      · cases hc
    · cases hc
  · -- by the receiver
    split at hc
    · rename_i kd m1 n ht
      split at hc
      · rename_i as1 r1 hp
        split at hc
        · rename_i hcd
          cases hc
          simp only [Bool.and_eq_true, Bool.or_eq_true, beq_iff_eq, decide_eq_true_eq] at hcd
          obtain ⟨⟨⟨hkd, hw8⟩, hfit⟩, hrec⟩ := hcd
          obtain ⟨hn, rfl⟩ := x_pop_i _ _ _ _ hp
          obtain ⟨b, bs, fs, rfl, hb1⟩ := y_recv_i hrec
          have hmem := t_find5 ht
          obtain ⟨c1, c2, c3, c4⟩ := y_cl _ hmem
          obtain ⟨lt1, lt2⟩ := y_cl_lt _ hmem
          dsimp only at c1 c2 c3 c4 lt1 lt2
          have hMet := hM d m' _ A B o lt1 lt2 hfit hr
          obtain ⟨hinst, hsel⟩ : (Cond.instanceMethod (y_nm m')).before args s = true ∧ (Cond.selects (y_nm m').cls (y_nm m') (y_nm m')).before args s = true := by
            rcases c4 with ⟨h, -⟩ | ⟨-, h1, h2⟩ | ⟨h, -⟩
            · omega
            · exact ⟨hts _ h1 rfl, hts _ h2 rfl⟩
            · omega
          have hcls := y_cls m' lt1
          have hrcv : ∃ cellB : Cell, H[b]? = some cellB ∧ cellB.vm.isStatics = false ∧ s.vm.findClass (y_nm m').cls = some cellB.cls := by
            obtain ⟨rr, hr1, cell, q1, q2, q3, -⟩ := V.at hb1 trivial
            obtain ⟨f1, f2, f3, f4, f5, f6, f7⟩ := y_clf _ _ hr1
            refine ⟨cell, q1, by rw [q3]; rfl, ?_⟩
            rw [hcls.1, q2, ← f6]
            exact (V.2.2.1.1 _ _ hr1).2.1
          have hn' : bs.length = n := by simpa using hn
          have hL9 : ¬ y_isL m' = true := y_virtL _ hmem (by dsimp only; omega)
          have hcw : y_cw m' = .code (y_nm m') (y_by m') (t_maxl m') (y_rt m') := by unfold y_cw; rw [if_neg hL9]
          have hstk : (Value.ref b :: bs).reverse ++ r = bs.reverse ++ .ref b :: r := by simp
          rcases c3 with ⟨k3, hlk⟩ | ⟨k3, host, hlk⟩
          · refine vx_runV (C := (y_nm m').cls) (b := b) S hMet ⟨⟨rfl, rfl, (rooms m' lt1).1, (rooms m' lt1).2, hws m' c1, by rw [← hcw]; exact List.mem_cons_self, hws m' c1 _ (by rw [← hcw]; exact List.mem_cons_self) _ _ (State.WarmedH.refl s), hini m' lt1, hcls.2.2.1, args_len c2, hts _ hlk rfl⟩, hinst, hsel⟩ ⟨y_In.blind, hrcv, fun U hU hW => hIn _ rfl U hU hW⟩ rfl hn' hsize hstk (by show 2 * 0 + _ ≤ _; unfold x_words at hw8; omega) hd ⟨hcl, hsl⟩
          · refine vx_runVN (C := (y_nm m').cls) (host := host) (b := b) S hMet ⟨⟨⟨rfl, rfl, (rooms m' lt1).1, (rooms m' lt1).2, hws m' c1, by rw [← hcw]; exact List.mem_cons_self⟩, hws m' c1 _ (by rw [← hcw]; exact List.mem_cons_self) _ _ (State.WarmedH.refl s), hini m' lt1, hcls.2.2.1, args_len c2, hts _ hlk rfl⟩, hinst, hsel⟩ ⟨y_In.blind, hrcv, fun U hU hW => hIn _ rfl U hU hW⟩ rfl hn' hsize hstk (by show 2 * 0 + _ ≤ _; unfold x_words at hw8; omega) hd ⟨hcl, hsl⟩
        · cases hc
      · cases hc
    · cases hc
  · -- a constructor
    split at hc
    · rename_i kd m1 n ht
      split at hc
      · rename_i as1 r1 hp
        split at hc
        · rename_i hcd
          cases hc
          simp only [Bool.and_eq_true, Bool.or_eq_true, beq_iff_eq, decide_eq_true_eq] at hcd
          obtain ⟨⟨⟨hkd, hw8⟩, hfit⟩, hrec⟩ := hcd
          obtain ⟨hn, rfl⟩ := x_pop_i _ _ _ _ hp
          obtain ⟨b, bs, fs, rfl, hb1⟩ := y_recv_i hrec
          have hmem := t_find5 ht
          obtain ⟨c1, c2, c3, c4⟩ := y_cl _ hmem
          obtain ⟨lt1, lt2⟩ := y_cl_lt _ hmem
          dsimp only at c1 c2 c3 c4 lt1 lt2
          have hMet := hM d m' _ A B o lt1 lt2 hfit hr
          obtain ⟨hnm, hinst⟩ : (y_nm m').name = "<init>" ∧ (Cond.instanceMethod (y_nm m')).before args s = true := by
            rcases c4 with ⟨h, -⟩ | ⟨h, -⟩ | ⟨-, h1, h2⟩
            · omega
            · omega
            · exact ⟨h1, hts _ h2 rfl⟩
          have hcls := y_cls m' lt1
          have hn' : bs.length = n := by simpa using hn
          have hL9 : ¬ y_isL m' = true := y_virtL _ hmem (by dsimp only; omega)
          have hrt : y_rt m' = none := y_initR _ hmem (by dsimp only; omega)
          have hcw : y_cw m' = .code (y_nm m') (y_by m') (t_maxl m') none := by unfold y_cw; rw [if_neg hL9, hrt]
          have hstk : (Value.ref b :: bs).reverse ++ r = bs.reverse ++ .ref b :: r := by simp
          rcases c3 with ⟨k3, hlk⟩ | ⟨k3, host, hlk⟩
          · refine vx_runI (b := b) S hMet ⟨⟨rfl, rfl, (rooms m' lt1).1, (rooms m' lt1).2, hws m' c1, by rw [← hcw]; exact List.mem_cons_self, hws m' c1 _ (by rw [← hcw]; exact List.mem_cons_self) _ _ (State.WarmedH.refl s), hini m' lt1, hcls.2.2.1, args_len c2, hts _ hlk rfl⟩, hnm, hinst⟩ ⟨y_In.blind, fun U hU hW => hIn _ rfl U hU hW⟩ rfl hn' hsize hstk (by show 2 * 0 + _ ≤ _; unfold x_words at hw8; omega) hd ⟨hcl, hsl⟩
          · refine vx_runIN (host := host) (b := b) S hMet ⟨⟨⟨rfl, rfl, (rooms m' lt1).1, (rooms m' lt1).2, hws m' c1, by rw [← hcw]; exact List.mem_cons_self⟩, hws m' c1 _ (by rw [← hcw]; exact List.mem_cons_self) _ _ (State.WarmedH.refl s), hini m' lt1, hcls.2.2.1, args_len c2, hts _ hlk rfl⟩, hnm, hinst⟩ ⟨y_In.blind, fun U hU hW => hIn _ rfl U hU hW⟩ rfl hn' hsize hstk (by show 2 * 0 + _ ≤ _; unfold x_words at hw8; omega) hd ⟨hcl, hsl⟩
        · cases hc
      · cases hc
    · cases hc
  · cases hc
end Y20

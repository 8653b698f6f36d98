/-! every method's contract; the plain machine's run is the machine's -/
theorem y_hh_L : ∀ m : Nat, m < 273 → y_isL m = true → m ≠ 268 → (t_han m).isEmpty = false ∧ t_own m = 13 := by decide +kernel
def y_hk (h : Nat × Nat × Nat × Nat) : Nat := if h.2.2.2 = 25 then 0 else 1
def y_pw : List (Nat × Nat × Nat × Nat) → Bool
  | [] => true
  | a :: r => (y_hk a == 0 || r.all (fun b => y_hk b == 1)) && y_pw r
theorem y_pw_i : ∀ (pre suf : List (Nat × Nat × Nat × Nat)) (r : Nat × Nat × Nat × Nat), y_pw (pre ++ r :: suf) = true → ∀ z ∈ pre, y_hk z = 0 ∨ y_hk r = 1
  | [], _, _, _, z, hz => nomatch hz
  | a :: pre, suf, r, h, z, hz => by
    simp only [List.cons_append, y_pw, Bool.and_eq_true, Bool.or_eq_true, beq_iff_eq, List.all_eq_true] at h
    rcases List.mem_cons.mp hz with rfl | hz
    · rcases h.1 with h1 | h1
      · exact Or.inl h1
      · exact Or.inr (h1 r (List.mem_append_right _ List.mem_cons_self))
    · exact y_pw_i pre suf r h.2 z hz
theorem y_hh_k1 : ∀ m : Nat, m < 273 → m ≠ 268 → (t_han m == (y_hh m).map (fun h => (h.1, h.2.1, h.2.2.1, y_hk h))) = true := by decide +kernel
theorem y_hh_k2 : ∀ m : Nat, m < 273 → ((y_hh m).all (fun h => h.2.2.2 == 13 || h.2.2.2 == 25) && y_pw (y_hh m)) = true := by decide +kernel
theorem y_hh_k : ∀ m : Nat, m < 273 → m ≠ 268 → t_han m = (y_hh m).map (fun h => (h.1, h.2.1, h.2.2.1, y_hk h)) ∧ (∀ h ∈ y_hh m, h.2.2.2 = 13 ∨ h.2.2.2 = 25) ∧ y_pw (y_hh m) = true := by
  intro m hm h8
  have h2 := Bool.and_eq_true_iff.mp (y_hh_k2 m hm)
  refine ⟨beq_iff_eq.mp (y_hh_k1 m hm h8), fun h hh => ?_, h2.2⟩
  have h3 := List.all_eq_true.mp h2.1 h hh
  simpa only [Bool.or_eq_true, beq_iff_eq] using h3
def y_nothr (m : Nat) (e : Nat × Instr) : Bool := match e.2 with
  | .new k => (t_exc (t_own m) k).isNone
  | _ => true
theorem y_nothr_L : ∀ m : Nat, m < 273 → y_isL m = true → m ≠ 268 → (t_all.getD m []).all (y_nothr m) = true := by decide +kernel
theorem y_cast0 : Cond.castable (y_exn 0) (y_exn 0) ∈ lw_tbl := by decide +kernel
theorem y_cast1 : Cond.castable (y_exn 1) (y_exn 1) ∈ lw_tbl := by decide +kernel
section Y23
variable {p : Program} {l : Launch} {e : Env} {s s₁ : State} {m : MethodId} {args : Array Value} {below : List Frame} {meth : Method} {c : Code} {rm : Room}
variable {mm : Nat} {D : va_G} {dA : Nat → ClassId} {lo : Nat} {A : Hp} {as : List Value}
theorem y_body (hmm : mm < 273) (B : BodyLoose p l (y_nm mm) (headSpec (y_ws mm) rm) (y_by mm) (t_maxl mm) (y_rt mm) e s m args below meth c s₁) (hml : c.maxLocals = t_maxl mm) (h : y_In D dA lo as A args s) : y_C p s m args meth c mm ∧ y_V D dA lo s s.heap A s.heap [] ∧ y_N s := by
  obtain ⟨h1, h2, h3, h4, h5⟩ := h
  refine ⟨⟨B.exec, B.bytes, hml, ?_, fun w hw hg => ?_, B.notSynchronized, B.returns, fun hi => (name_of_methodNamed B.named B.method).1.trans (y_isi_ok mm hmm hi)⟩, ⟨h2, h3, h4, Nat.le_refl _, fun _ _ _ => rfl, fun _ h => nomatch h⟩, h5⟩
  · rw [← (y_cls mm hmm).1]
    exact findClass_of_methodNamed B.named
  · unfold y_gw at hg
    rcases Bool.or_eq_true_iff.mp hg with hg | hg
    · exact atoms_spec (ws := y_ws mm) B.pre _ (List.mem_cons_of_mem _ (List.mem_filter.mpr ⟨hw, hg⟩))
    · exact h5.use hw hg
end Y23
theorem x_hnd_i {mm pc k h : Nat} (hmm : mm < 273) (h8 : mm ≠ 268) (hh : x_hnd mm pc k = some h) : ∃ (pre suf : List (Nat × Nat × Nat × Nat)) (r : Nat × Nat × Nat × Nat), y_hh mm = pre ++ r :: suf ∧ r.2.2.1 = h ∧ y_hk r = k ∧ r.1 ≤ pc ∧ pc < r.2.1 ∧ ∀ z ∈ pre, ¬ (z.1 ≤ pc ∧ pc < z.2.1) ∨ (y_hk z = 0 ∧ k = 1) := by
  obtain ⟨e1, e2, e3⟩ := y_hh_k mm hmm h8
  unfold x_hnd at hh
  rw [e1, List.find?_map, Option.map_map] at hh
  obtain ⟨r, hr, hz⟩ := x_map_i hh
  obtain ⟨hp, pre, suf, hs, hn⟩ := List.find?_eq_some_iff_append.mp hr
  simp only [Function.comp, Bool.and_eq_true, decide_eq_true_eq, beq_iff_eq] at hp
  refine ⟨pre, suf, r, hs, hz, hp.2, hp.1.1, hp.1.2, fun z hz => ?_⟩
  by_cases hc : z.1 ≤ pc ∧ pc < z.2.1
  · right
    have h1 := hn z hz
    simp only [Function.comp, hc.1, hc.2, decide_true, Bool.and_true, Bool.true_and, Bool.not_eq_true', beq_eq_false_iff_ne, ne_eq] at h1
    rw [hs] at e3
    have h2 := y_pw_i _ _ _ e3 z hz
    have h3 : ∀ t, y_hk t = 0 ∨ y_hk t = 1 := fun t => by unfold y_hk; split <;> simp
    rcases h3 z with h | h <;> rcases h3 r with h' | h'
    · exact absurd (h.trans (h'.symm.trans hp.2)) h1
    · exact ⟨h, hp.2.symm.trans h'⟩
    · rcases h2 with h2 | h2
      · rw [h] at h2; cases h2
      · rw [h'] at h2; cases h2
    · exact absurd (h.trans (h'.symm.trans hp.2)) h1
  · exact Or.inl hc
theorem y_exn_hk {t : Nat × Nat × Nat × Nat} (h : t.2.2.2 = 13 ∨ t.2.2.2 = 25) : Cond.classLink (y_own 13) t.2.2.2 (y_exn (y_hk t)) ∈ lw_tbl := by
  unfold y_hk
  rcases h with h | h
  · rw [h, if_neg (by decide)]; exact y_ex_0
  · rw [h, if_pos rfl]; exact y_ex_2
theorem y_M_of {l : Launch} (hl : l.stackTraces = false) {D : va_G} {dA : Nat → ClassId} {lo f : Nat} (hP : y_P l D dA lo f) : y_M l D dA lo f := by
  intro d mm as A B o hmm h8 hlen hrun
  have hlen' : (lg_sl as).length ≤ t_maxl mm := by rw [← x_arg_len]; exact hlen
  cases hL : y_isL mm with
  | false =>
    refine vx_ofW (y_cls mm hmm).2.1 (cc := y_by mm) (maxL := t_maxl mm) (ret := y_rt mm) (ws' := lw_tbl.filter goodWord) (by unfold y_ws y_cw; rw [hL]; rfl) ?_
    intro p e s m args below meth c s₁ Bd hml hex hIn
    obtain ⟨C, V, hN⟩ := y_body hmm Bd hml hIn
    have hargs : args = as.toArray := hIn.1
    subst hargs
    rw [lg_entry_eq]
    have hem := y_hh_0 mm hmm hL
    refine hP d mm 0 (x_entry mm as) [] A o B hrun p e _ s m as.toArray below meth c s.heap [] 0 0 _ _ C hN V (y_entry hlen (lv_entry as hlen')) (x_entry_len hlen) (Nat.le_refl _) (Nat.le_refl _) (by rw [Nat.zero_add]; exact Nat.le_refl _) (by rw [Nat.zero_add]; exact Nat.le_refl _) ?_ ?_ ?_ ?_
    · intro pc i ls st H1 locs1 c1 n1 v hd hf ho V1 hc hs
      exact y_end C hmm V1 hd hf ho (by rwa [Nat.zero_add] at hc) (by rwa [Nat.zero_add] at hs)
    · intro pc i L ls st B1 H1 locs1 c1 n1 k hi ht ho hyl V1 hc hs
      rw [Nat.zero_add] at hc hs
      exact y_throw hl C hmm hex V1 hyl hi ht ho (show 9 ≤ d + 9 from Nat.le_add_left _ _) (show 300 ≤ 64 * d + 300 from Nat.le_add_left _ _) (Nat.le_refl _) (Nat.le_refl _) hc hs
    · intro pc ls rest H1 locs1 c1 n1 k q ce _ ho V1 hc hs g1 g2 g3
      rw [Nat.zero_add] at hc hs
      exact vx_out (fun x hx => (hex x hx).elim) C.2.2.2.2.2.1 g1 g2 g3 (fun t ht hal => ⟨⟨k, ho, rfl⟩, V1.outA t ht (V1.2.1.q.moved hal)⟩) V1.2.2.2.2.2 hc hs
    · intro pc k h ls rest H1 locs1 c1 n1 q ce hh
      unfold x_hnd at hh
      rw [List.isEmpty_iff.mp hem] at hh
      cases hh
  | true =>
    refine vx_ofWH (y_cls mm hmm).2.1 (cc := y_by mm) (maxL := t_maxl mm) (ret := y_rt mm) (hh := y_hh mm) (ws' := lw_tbl.filter goodWord) (by unfold y_ws y_cw; rw [hL]; rfl) ?_
    intro p e s m args below meth c s₁ Bd hml hIn
    obtain ⟨C, V, hN⟩ := y_body hmm Bd hml hIn
    have hex := vx_table (x := y_nm mm) (y := y_nm mm) Bd (atoms_spec (ws := y_ws mm) Bd.pre (Cond.codeWith (y_nm mm) (y_by mm) (t_maxl mm) (y_rt mm) (y_hh mm)) (by unfold y_ws y_cw; rw [hL]; exact List.mem_cons_self))
    have hargs : args = as.toArray := hIn.1
    subst hargs
    rw [lg_entry_eq]
    obtain ⟨hne, ho13⟩ := y_hh_L mm hmm hL h8
    refine hP d mm 0 (x_entry mm as) [] A o B hrun p e _ s m as.toArray below meth c s.heap [] 0 0 _ _ C hN V (y_entry hlen (lv_entry as hlen')) (x_entry_len hlen) (Nat.le_refl _) (Nat.le_refl _) (by rw [Nat.zero_add]; exact Nat.le_refl _) (by rw [Nat.zero_add]; exact Nat.le_refl _) ?_ ?_ ?_ ?_
    · intro pc i ls st H1 locs1 c1 n1 v hd hf ho V1 hc hs
      exact y_end C hmm V1 hd hf ho (by rwa [Nat.zero_add] at hc) (by rwa [Nat.zero_add] at hs)
    · intro pc i L ls st B1 H1 locs1 c1 n1 k hi ht
      exfalso
      have hok := List.all_eq_true.mp (y_nothr_L mm hmm hL h8) (pc, i) (y_lookup _ _ _ hi)
      unfold x_thr at ht
      split at ht
      · rename_i ik
        split at ht
        · obtain ⟨E, hE, -⟩ := x_map_i ht
          unfold y_nothr at hok
          simp only [hE] at hok
          cases hok
        · cases ht
      · cases ht
    · intro pc ls rest H1 locs1 c1 n1 k q ce hem
      rw [hne] at hem
      cases hem
    · intro pc k h ls rest H1 locs1 c1 n1 q ce hh g1 g2 g3 kk
      obtain ⟨pre, suf, r, hs, hr1, hr2, hp1, hp2, hpre⟩ := x_hnd_i hmm h8 hh
      obtain ⟨-, hct, -⟩ := y_hh_k mm hmm h8
      rw [hs] at hct hex
      have hown := C.2.2.2.1
      rw [ho13] at hown
      have hrct := hct r (List.mem_append_right _ List.mem_cons_self)
      have hlk := y_exn_hk hrct
      rw [hr2] at hlk
      have hcast : Cond.castable (y_exn k) (y_exn k) ∈ lw_tbl := by
        rw [← hr2]
        unfold y_hk
        split
        · exact y_cast0
        · exact y_cast1
      have hts := C.2.2.2.2.1
      refine vx_catch hown (tableOf pre) ⟨r.1, r.2.1, r.2.2.1, r.2.2.2⟩ (tableOf suf) (by rw [hex]; simp [tableOf]) ?_ (by simp [covers, hp1, hp2]) (by show r.2.2.2 ≠ 0; rcases hrct with h | h <;> rw [h] <;> decide) (hts _ hlk rfl) (hts _ hcast rfl) g1 g2 g3 (by rw [hr1]; exact kk)
      intro z hz
      obtain ⟨y, hy, rfl⟩ := List.mem_map.mp (show z ∈ pre.map _ from hz)
      have hyct := hct y (List.mem_append_left _ hy)
      rcases hpre y hy with hn | ⟨hk0, hk1⟩
      · left
        simp only [covers, Bool.and_eq_false_iff, decide_eq_false_iff_not]
        by_cases h9 : y.1 ≤ pc
        · exact Or.inr fun h => hn ⟨h9, h⟩
        · exact Or.inl h9
      · right
        refine ⟨by show y.2.2.2 ≠ 0; rcases hyct with h | h <;> rw [h] <;> decide, y_exn (y_hk y), hts _ (y_exn_hk hyct) rfl, ?_⟩
        rw [hk0, hk1]
        exact hN.2
theorem y_all {l : Launch} (hl : l.stackTraces = false) (D : va_G) (dA : Nat → ClassId) (lo : Nat) : ∀ f : Nat, y_P l D dA lo f ∧ y_M l D dA lo f
  | 0 => by
    have h : y_P l D dA lo 0 := fun d mm pc L st A o A' hrun => nomatch hrun
    exact ⟨h, y_M_of hl h⟩
  | f + 1 => by
    have h := y_step (y_all hl D dA lo f).1 (y_all hl D dA lo f).2
    exact ⟨h, y_M_of hl h⟩

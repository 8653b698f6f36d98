section Y22
variable {p : Program} {l : Launch} {e : Env} {R : Room} {s : State} {m : MethodId} {args : Array Value} {below : List Frame} {meth : Method} {c : Code} {H : Heap} {locs : List Loc} {cells slots : Nat}
variable {pc mm : Nat} {ls : Array Slot} {D : va_G} {dA : Nat → ClassId} {lo : Nat} {A : Hp}
/-- a method's end -/
theorem y_end {i : Instr} {st : List Value} {v : Option Value} {o : XO} {mc ms : Nat} (C : y_C p s m args meth c mm) (hmm : mm < 273) (V : y_V D dA lo s s.heap A H locs) (hd : decode (y_by mm) pc = .ok (i, x_len i)) (hf : x_fin mm i st = some v) (ho : o = .inl v) (hc : cells ≤ mc) (hs : slots ≤ ms) :
    W p l e R s m args below meth c H locs cells slots (vx_MQ below (y_Q D dA lo o A) (y_X D dA lo o A) args s mc ms (fun q => lo ≤ q)) (F0 m pc ls st) := by
  obtain ⟨hx, hb, -, -, -, hlk, hr, -⟩ := C
  obtain ⟨r0, r1, r2, r3, r4⟩ := y_rok_i (y_ret_ok mm hmm)
  have hq : ∀ t : State, t.heap = H → s.WarmedH t.vm → y_Q D dA lo o A args s (.returned v) t := fun t ht hW => ⟨⟨v, ho, rfl⟩, V.out t ht hW⟩
  have hfr : ∀ q ∈ locs, lo ≤ q.base := V.2.2.2.2.2
  refine W.widen (k := mc) (n := ms) hc hs (vx_ret ?_)
  unfold x_fin at hf
  split at hf
  · split at hf
    · rename_i h0
      cases hf
      exact W.vret hx hb (hr.trans (r0 h0)) hq hfr hd hlk
    · cases hf
  · split at hf
    · rename_i h1
      cases hf
      exact W.iret hx hb (hr.trans (r1 h1)) hq hfr hd hlk
    · split at hf
      · rename_i h2
        cases hf
        exact W.zret hx hb (hr.trans (r2 h2.1)) (by rcases h2.2 with rfl | rfl <;> rfl) hq hfr hd hlk
      · cases hf
  · split at hf
    · rename_i h3
      cases hf
      exact W.lret hx hb (hr.trans (r3 h3)) hq hfr hd hlk
    · cases hf
  · split at hf
    · rename_i h4
      cases hf
      obtain ⟨t, ht, href⟩ := r4 h4
      exact W.aret hx hb (hr.trans ht) (by cases t <;> first | exact Or.inl ⟨_, rfl⟩ | exact Or.inr ⟨_, rfl⟩ | cases href) (Or.inr ⟨_, rfl⟩) hq hfr hd hlk
    · cases hf
  · split at hf
    · rename_i h4
      cases hf
      obtain ⟨t, ht, href⟩ := r4 h4
      exact W.aret hx hb (hr.trans ht) (by cases t <;> first | exact Or.inl ⟨_, rfl⟩ | exact Or.inr ⟨_, rfl⟩ | cases href) (Or.inl rfl) hq hfr hd hlk
    · cases hf
  · cases hf
/-- throw new E("..") -/
theorem y_throw {i : Instr} {L : Lc} {st : List Value} {B : Hp} {k : Nat} {o : XO} {mc ms : Nat} (hl : l.stackTraces = false) (C : y_C p s m args meth c mm) (hmm : mm < 273) (hex : ∀ x ∈ c.exceptionTable.toList, False) (V : y_V D dA lo s s.heap A H locs) (hyl : y_L L ls) (hi : t_ins mm pc = some i) (ht : x_thr mm i L st A = some (k, B)) (ho : o = .inr k) (hfr : 9 ≤ R.frames) (hlo : 300 ≤ R.locals) (hRc : mc ≤ R.cells) (hRs : ms ≤ R.slots) (hc : cells + (B.2.1 - A.2.1) ≤ mc) (hs : slots + (B.2.2.1 - A.2.2.1) ≤ ms) :
    W p l e R s m args below meth c H locs cells slots (vx_MQ below (y_Q D dA lo o B) (y_X D dA lo o B) args s mc ms (fun q => lo ≤ q)) (F0 m pc ls st) := by
  obtain ⟨hx, hb, hml, hown, hts, hlk, -, -⟩ := C
  unfold x_thr at ht
  split at ht
  · rename_i ik
    split at ht
    · rename_i hcd
      obtain ⟨hL, hw⟩ := hcd
      obtain ⟨E, hE, hz⟩ := x_map_i ht
      cases hz
      have hok := List.all_eq_true.mp (y_thr_all mm hmm) (pc, .new ik) (y_lookup _ _ _ hi)
      unfold y_thrOk at hok
      simp only [hE] at hok
      simp only [Bool.and_eq_true, beq_iff_eq] at hok
      obtain ⟨⟨⟨⟨h11, hd3⟩, hd4⟩, hd7⟩, hd10⟩ := hok
      have hd3 := y_iD_i hd3
      have hd7 := y_iS_i hd7
      have hd10 := y_iA_i hd10
      split at hd4
      · rename_i j hj
        obtain ⟨js, hjs⟩ := Option.isSome_iff_exists.mp hd4
        obtain ⟨cs, hcs⟩ := t_str_i hjs
        have hstr := V.2.1.2.1 _ _ _ _ hcs
        rw [h11] at hown hE
        have hkl : Cond.classLink (y_own 11) ik (y_exn k) ∈ lw_tbl := y_ex _ (t_find3 hE)
        have e1 : (h_lost A 6).2.1 - A.2.1 = 1 := Nat.add_sub_cancel_left _ _
        have e2 : (h_lost A 6).2.2.1 - A.2.2.1 = 6 := Nat.add_sub_cancel_left _ _
        rw [e1] at hc
        rw [e2] at hs
        have hls : ls.size = c.maxLocals := by rw [hyl.1, hL, hml]
        have hw2 : (st.map fun v => v.category).sum ≤ 8 := hw
        have fin : ∀ (H1 : Heap) (ce : Cell), H1[H.size]? = some ce → ce.vm = .none → s.vm.findClass (y_exn k) = some ce.cls → H1.size = H.size + 1 → (∀ q : Nat, q < H.size → H1[q]? = H[q]?) → W p l e R s m args below meth c H1 locs (cells + 1) (slots + 6) (vx_MQ below (y_Q D dA lo o (h_lost A 6)) (y_X D dA lo o (h_lost A 6)) args s mc ms (fun q => lo ≤ q)) (F0 m (pc + 10) ls (.ref H.size :: st)) := by
          intro H1 ce g1 g2 g3 g4 g5
          have V1 := V.lost (n := 6) g4 g5
          refine y_athrow hx hb (y_dec3 hd10 rfl) (vx_out (fun x hx => (hex x hx).elim) hlk g1 g2 g3 (fun t ht hal => ⟨⟨k, ho, rfl⟩, V1.outA t ht (V1.2.1.q.moved hal)⟩) V1.2.2.2.2.2 hc hs)
        by_cases h0 : k = 0
        · subst h0
          have hin : ∀ w ∈ y_wN, w ∈ lw_tbl ∧ y_gw w = true ∧ vx_ot w = true := fun w hw => by
            have := List.all_eq_true.mp y_wN_in w hw
            simp only [Bool.and_eq_true, decide_eq_true_eq] at this
            exact ⟨this.1.1, this.1.2, this.2⟩
          rw [if_pos rfl] at hd7
          exact y_makeX (names := ["java/lang/Exception"]) (Y0 := "java/lang/RuntimeException") (rx := prog_31_method_4_code) (ix := 13) hx hb hl (by decide +kernel) (by decide +kernel) (by decide +kernel) (by decide +kernel) hown (cls := "java/util/NoSuchElementException") (by decide) (by decide) (by decide) (hts _ hkl rfl) (hts _ y_exini0 rfl) hstr (fun w hw => hts w (hin w hw).1 (hin w hw).2.1) (fun w hw => by
            rcases List.mem_cons.mp hw with rfl | hw
            · rfl
            · rcases List.mem_cons.mp hw with rfl | hw
              · rfl
              · exact (hin w hw).2.2) V.2.1.2.2.1 V.2.1.2.2.2 V.2.2.2 hls (y_dec3 hi rfl) (y_dec3 hd3 rfl) (y_dec3 hj rfl) (y_dec3 hd7 rfl) (by show 1 + 4 < _; omega) (by show _ + (13 * (1 + 2) + 43) ≤ _; omega) (by omega) (by omega) fin
        · have hin : ∀ w ∈ y_wI, w ∈ lw_tbl ∧ y_gw w = true ∧ vx_ot w = true := fun w hw => by
            have := List.all_eq_true.mp y_wI_in w hw
            simp only [Bool.and_eq_true, decide_eq_true_eq] at this
            exact ⟨this.1.1, this.1.2, this.2⟩
          rw [if_neg h0] at hd7
          have hen : y_exn k = "java/lang/IllegalArgumentException" := by unfold y_exn; rw [if_neg h0]
          rw [hen] at hkl fin
          exact y_makeX (names := ["java/lang/Exception"]) (Y0 := "java/lang/RuntimeException") (rx := Bundle.six) (ix := 7) hx hb hl Bundle.six_0 Bundle.six_1 Bundle.six_2 Bundle.six_5 hown (cls := "java/lang/IllegalArgumentException") (by decide) (by decide) (by decide) (hts _ hkl rfl) (hts _ y_exini1 rfl) hstr (fun w hw => hts w (hin w hw).1 (hin w hw).2.1) (fun w hw => by
            rcases List.mem_cons.mp hw with rfl | hw
            · rfl
            · rcases List.mem_cons.mp hw with rfl | hw
              · rfl
              · exact (hin w hw).2.2) V.2.1.2.2.1 V.2.1.2.2.2 V.2.2.2 hls (y_dec3 hi rfl) (y_dec3 hd3 rfl) (y_dec3 hj rfl) (y_dec3 hd7 rfl) (by show 1 + 4 < _; omega) (by show _ + (13 * (1 + 2) + 43) ≤ _; omega) (by omega) (by omega) fin
      · cases hd4
    · cases ht
  · cases ht
end Y22

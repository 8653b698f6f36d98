/-! the plain machine's run is the machine's: the step -/
theorem y_sum {x a b c : Nat} (h1 : a ≤ b) (h2 : b ≤ c) : x + (b - a) + (c - b) = x + (c - a) := by omega
theorem y_sum2 {x a b c r : Nat} (h1 : a ≤ b) (h2 : b ≤ c) (h : x + (c - a) ≤ r) : x + (b - a) ≤ r := by omega
theorem y_V.back {D : va_G} {dA : Nat → ClassId} {lo : Nat} {s st t T' : State} {A B : Hp} {H : Heap} {locs Lx : List Loc} (V : y_V D dA lo s s.heap A H locs) (hout : y_Out D dA lo B st t) (h0 : st.heap = H) (e1 : T'.heap = t.heap) (hal : t.vm.Alike s.vm) (hr : B.2.2.2 = A.2.2.2) (hLx : ∀ q ∈ Lx, lo ≤ q.base) : y_V D dA lo s s.heap B T'.heap (locs ++ Lx) := by
  obtain ⟨hO, hsp, hz, hq⟩ := hout
  rw [h0] at hz hq
  rw [e1]
  refine ⟨hO, V.2.1.back hsp hal hr, V.2.2.1, Nat.le_trans V.2.2.2.1 hz, fun q h1 h2 => ?_, fun q hm => ?_⟩
  · rw [hq q (Nat.lt_of_lt_of_le h1 V.2.2.2.1) (Nat.not_le.mp h2)]
    exact V.2.2.2.2.1 q h1 h2
  · rcases List.mem_append.mp hm with h | h
    · exact V.2.2.2.2.2 q h
    · exact hLx q h
theorem y_hst {p : Program} {l : Launch} {e : Env} {R : Room} {s : State} {m : MethodId} {args : Array Value} {below : List Frame} {meth : Method} {c : Code} {H : Heap} {locs : List Loc} {cells slots : Nat} {Q : State → Prop} {mm h h' k q : Nat} {L : Lc} {ls : Array Slot} (hx : p.tables.exec = Jvm.exec) (hb : c.code = y_by mm) (hh : x_hst mm h = some (h', k)) (hk : k < L.length) (hyl : y_L L ls)
    (go : ∀ ls' : Array Slot, y_L (x_putN L k) ls' → W p l e R s m args below meth c H locs cells slots Q (F0 m h' ls' [])) : W p l e R s m args below meth c H locs cells slots Q (F0 m h ls [.ref q]) := by
  unfold x_hst at hh
  split at hh
  · rename_i k0 hi
    cases hh
    exact lv_astore_n hx hb (y_dec3 hi rfl) rfl hyl hk rfl (fun ls' h' => go ls' (y_L_putN h'))
  · rename_i k0 hi
    cases hh
    exact lv_astore hx hb (y_dec3 hi rfl) hyl hk rfl (fun ls' h' => go ls' (y_L_putN h'))
  · cases hh
theorem x_putN_len (l : Lc) (k : Nat) : (x_putN l k).length = l.length := by unfold x_putN; rw [List.length_set, x_kill_len]
theorem x_lcl_len {i : Instr} {l l' : Lc} {st st' : List Value} (h : x_lcl i l st = some (l', st')) : l'.length = l.length := by
  have p1 : ∀ (j : Nat) (v : Value), (x_put l j v).length = l.length := fun j v => by unfold x_put; rw [List.length_set, x_kill_len]
  have p2 : ∀ (j : Nat) (v : Value), (x_put2 l j v).length = l.length := fun j v => by unfold x_put2; rw [List.length_set, List.length_set, x_kill_len]
  unfold x_lcl at h
  split at h
  · obtain ⟨v, hv, hz⟩ := x_map_i h; cases hz; rfl
  · obtain ⟨v, hv, hz⟩ := x_map_i h; cases hz; rfl
  · obtain ⟨v, hv, hz⟩ := x_map_i h; cases hz; rfl
  · obtain ⟨v, hv, hz⟩ := x_map_i h; cases hz; rfl
  · obtain ⟨v, hv, hz⟩ := x_map_i h; cases hz; rfl
  · obtain ⟨v, hv, hz⟩ := x_map_i h; cases hz; rfl
  · unfold x_stI at h
    split at h
    · split at h
      · cases h; exact p1 _ _
      · cases h
    · cases h
  · unfold x_stI at h
    split at h
    · split at h
      · cases h; exact p1 _ _
      · cases h
    · cases h
  · unfold x_stL at h
    split at h
    · split at h
      · cases h; exact p2 _ _
      · cases h
    · cases h
  · unfold x_stL at h
    split at h
    · split at h
      · cases h; exact p2 _ _
      · cases h
    · cases h
  · unfold x_stA at h
    split at h
    · split at h
      · cases h; exact p1 _ _
      · cases h
    · split at h
      · cases h; exact p1 _ _
      · cases h
    · cases h
  · unfold x_stA at h
    split at h
    · split at h
      · cases h; exact p1 _ _
      · cases h
    · split at h
      · cases h; exact p1 _ _
      · cases h
    · cases h
  · split at h
    · split at h
      · cases h; exact p1 _ _
      · cases h
    · cases h
  · cases h
theorem y_step {l : Launch} {D : va_G} {dA : Nat → ClassId} {lo f : Nat} (hP : y_P l D dA lo f) (hM : y_M l D dA lo f) : y_P l D dA lo (f + 1) := by
  intro d mm pc L st A o A' hrun p e R s m args below meth c H locs cells slots Q ls C N V hyl hL hfr hlo hcl hsl KF KT KO KH
  have hx := C.1
  have hb := C.2.1
  have hml : ls.size = c.maxLocals := by rw [hyl.1, hL, C.2.2.1]
  /- on in this frame -/
  have go : ∀ (d1 pc' : Nat) (l' : Lc) (st' : List Value) (B : Hp) (ls' : Array Slot) (H1 : Heap) (locs1 : List Loc), d1 = d → x_gr A B → x_run f d1 mm pc' l' st' B = some (o, A') → y_V D dA lo s s.heap B H1 locs1 → y_L l' ls' → l'.length = L.length → W p l e R s m args below meth c H1 locs1 (cells + (B.2.1 - A.2.1)) (slots + (B.2.2.1 - A.2.2.1)) Q (F0 m pc' ls' st') := by
    intro d1 pc' l' st' B ls' H1 locs1 hd1 hg hr V1 hyl1 hlen
    subst hd1
    have hg2 := x_gr_run _ _ _ _ _ _ _ _ _ hr
    have s1 := y_sum (x := cells) hg.1 hg2.1
    have s2 := y_sum (x := slots) hg.2.1 hg2.2.1
    refine hP d1 mm pc' l' st' B o A' hr p e R s m args below meth c H1 locs1 _ _ Q ls' C N V1 hyl1 (hlen.trans hL) hfr hlo (by rw [s1]; exact hcl) (by rw [s2]; exact hsl) ?_ ?_ ?_ ?_
    · intro a1 a2 a3 a4 a5 a6 a7 a8 a9 b1 b2 b3 b4 b5 b6
      exact KF a1 a2 a3 a4 a5 a6 a7 a8 a9 b1 b2 b3 b4 (by rw [← s1]; exact b5) (by rw [← s2]; exact b6)
    · intro a1 a2 a3 a4 a5 a6 a7 a8 a9 c1 c2 b1 b2 b3 b4 b5 b6 b7
      exact KT a1 a2 a3 a4 a5 a6 a7 a8 a9 c1 c2 b1 b2 b3 b4 b5 (by rw [← s1]; exact b6) (by rw [← s2]; exact b7)
    · intro a1 a2 a3 a4 a5 a6 a7 a8 a9 c1 b1 b2 b3 b4 b5 b6 b7 b8
      exact KO a1 a2 a3 a4 a5 a6 a7 a8 a9 c1 b1 b2 b3 (by rw [← s1]; exact b4) (by rw [← s2]; exact b5) b6 b7 b8
    · exact KH
  have go0 : ∀ (pc' : Nat) (l' : Lc) (st' : List Value) (ls' : Array Slot), x_run f d mm pc' l' st' A = some (o, A') → y_L l' ls' → l'.length = L.length → W p l e R s m args below meth c H locs cells slots Q (F0 m pc' ls' st') := by
    intro pc' l' st' ls' hr hyl1 hlen
    have := go d pc' l' st' A ls' H locs rfl x_gr.rf hr V hyl1 hlen
    rwa [Nat.sub_self, Nat.sub_self, Nat.add_zero, Nat.add_zero] at this
  rw [x_run] at hrun
  split at hrun
  · cases hrun
  · rename_i i hi
    split at hrun
    · rename_i pc' l' st' B hloc
      have hg := x_gr_loc hloc
      have hg2 := x_gr_run _ _ _ _ _ _ _ _ _ hrun
      unfold x_loc at hloc
      split at hloc
      · rename_i z hst
        cases hloc
        exact y_stk hx hb (y_dec3 hi (x_stk_swt hst)) hst (go0 _ _ _ ls hrun hyl rfl)
      · split at hloc
        · rename_i z1 z2 hlc
          cases hloc
          exact y_lcl hx hb (y_dec3 hi (x_lcl_swt hlc)) hyl hlc (fun ls' h' hlen => go0 _ _ _ ls' hrun h' hlen)
        · split at hloc
          · rename_i z1 z2 hbr
            cases hloc
            obtain ⟨-, n, hd, hn⟩ := y_dec hi
            exact y_br hx hb hd (hn.imp id y_swt_i) hbr (go0 _ _ _ ls hrun hyl rfl)
          · split at hloc
            · rename_i z1 z2 hme
              cases hloc
              exact y_mem C V hml hme (y_dec3 hi (x_mem_swt hme)) (by omega) (by omega) (y_sum2 hg.1 hg2.1 hcl) (y_sum2 hg.2.1 hg2.2.1 hsl) (fun H1 locs1 V1 => go d _ _ _ _ ls H1 locs1 rfl hg hrun V1 hyl rfl)
            · cases hloc
    · split at hrun
      · rename_i v hfin
        cases hrun
        exact KF pc i ls st H locs cells slots v (y_dec3 hi (x_fin_swt hfin)) hfin rfl V (Nat.le_add_right _ _) (Nat.le_add_right _ _)
      · split at hrun
        · rename_i q B hthr
          cases hrun
          exact KT pc i L ls st A H locs cells slots _ hi hthr rfl hyl V (Nat.le_refl _) (Nat.le_refl _)
        · split at hrun
          · cases hrun
          · rename_i d'
            split at hrun
            · cases hrun
            · rename_i m' as r hcal
              split at hrun
              · rename_i v B hcallee
                have hg := x_gr_run _ _ _ _ _ _ _ _ _ hcallee
                have hg2 := x_gr_run _ _ _ _ _ _ _ _ _ hrun
                have hR := y_call (l := l) (p := p) (e := e) (R := R) (below := below) (meth := meth) (locs := locs) (cells := cells) (slots := slots) (pc := pc) hM C N V hyl hL hfr hlo hi hcal hcallee (y_sum2 hg.1 hg2.1 hcl) (y_sum2 hg.2.1 hg2.2.1 hsl)
                intro T hT X
                rcases hR T hT X with ⟨v2, st₀, t, T', Lx, h0, X', hLx, e1, e2, ⟨⟨v3, ho, hoc⟩, hout⟩, stp⟩ | ⟨q, st₀, t, T', Lx, E, ce, h0, X', hLx, e1, e2, ⟨⟨k, ho, hE⟩, hout⟩, hce, hcv, hcl2, stp⟩
                · cases ho
                  cases hoc
                  have V1 : y_V D dA lo s s.heap B T'.heap (locs ++ Lx) := V.back hout h0 e1 (by rw [← e2]; exact X'.warmed.alike.symm) hg.2.2 hLx
                  obtain ⟨t2, a1, b1⟩ := go (d' + 1) (pc + 3) L (v.toList ++ r) B ls T'.heap (locs ++ Lx) rfl hg hrun V1 hyl rfl T' rfl X'
                  exact ⟨t2, stp t2 a1, b1⟩
                · cases ho
              · rename_i q B hcallee
                have hg := x_gr_run _ _ _ _ _ _ _ _ _ hcallee
                split at hrun
                · rename_i h hh
                  split at hrun
                  · rename_i h' k hst
                    split at hrun
                    · rename_i hk
                      have hg2 := x_gr_run _ _ _ _ _ _ _ _ _ hrun
                      have hR := y_call (l := l) (p := p) (e := e) (R := R) (below := below) (meth := meth) (locs := locs) (cells := cells) (slots := slots) (pc := pc) hM C N V hyl hL hfr hlo hi hcal hcallee (y_sum2 hg.1 hg2.1 hcl) (y_sum2 hg.2.1 hg2.2.1 hsl)
                      intro T hT X
                      rcases hR T hT X with ⟨v2, st₀, t, T', Lx, h0, X', hLx, e1, e2, ⟨⟨v3, ho, hoc⟩, hout⟩, stp⟩ | ⟨q9, st₀, t, T', Lx, E, ce, h0, X', hLx, e1, e2, ⟨⟨k9, ho, hE⟩, hout⟩, hce, hcv, hcl2, stp⟩
                      · cases ho
                      · cases ho
                        subst hE
                        have V1 : y_V D dA lo s s.heap B T'.heap (locs ++ Lx) := V.back hout h0 e1 (by rw [← e2]; exact X'.warmed.alike.symm) hg.2.2 hLx
                        obtain ⟨t2, a1, b1⟩ := KH pc q h ls r T'.heap (locs ++ Lx) (cells + (B.2.1 - A.2.1)) (slots + (B.2.2.1 - A.2.2.1)) q9 ce hh (by rw [e1]; exact hce) hcv hcl2 (y_hst hx hb hst hk hyl (fun ls' h9 => go (d' + 1) h' (x_putN L k) [] B ls' T'.heap (locs ++ Lx) rfl hg hrun V1 h9 (x_putN_len L k))) T' rfl X'
                        exact ⟨t2, stp.trans a1, b1⟩
                    · cases hrun
                  · cases hrun
                · split at hrun
                  · rename_i hemp
                    cases hrun
                    have hR := y_call (l := l) (p := p) (e := e) (R := R) (below := below) (meth := meth) (locs := locs) (cells := cells) (slots := slots) (pc := pc) hM C N V hyl hL hfr hlo hi hcal hcallee hcl hsl
                    intro T hT X
                    rcases hR T hT X with ⟨v2, st₀, t, T', Lx, h0, X', hLx, e1, e2, ⟨⟨v3, ho, hoc⟩, hout⟩, stp⟩ | ⟨q9, st₀, t, T', Lx, E, ce, h0, X', hLx, e1, e2, ⟨⟨k9, ho, hE⟩, hout⟩, hce, hcv, hcl2, stp⟩
                    · cases ho
                    · cases ho
                      subst hE
                      have V1 : y_V D dA lo s s.heap A' T'.heap (locs ++ Lx) := V.back hout h0 e1 (by rw [← e2]; exact X'.warmed.alike.symm) hg.2.2 hLx
                      obtain ⟨t2, a1, b1⟩ := KO pc ls r T'.heap (locs ++ Lx) (cells + (A'.2.1 - A.2.1)) (slots + (A'.2.2.1 - A.2.2.1)) q q9 ce hemp rfl V1 (Nat.le_refl _) (Nat.le_refl _) (by rw [e1]; exact hce) hcv hcl2 T' rfl X'
                      exact ⟨t2, stp.trans a1, b1⟩
                  · cases hrun
              · cases hrun

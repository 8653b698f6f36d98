/-! cells are only added; the strings stay where they are -/
def x_gr (A B : Hp) : Prop := A.2.1 ≤ B.2.1 ∧ A.2.2.1 ≤ B.2.2.1 ∧ B.2.2.2 = A.2.2.2
theorem x_gr.rf {A : Hp} : x_gr A A := ⟨Nat.le_refl _, Nat.le_refl _, rfl⟩
theorem x_gr.tr {A B C : Hp} (h : x_gr A B) (g : x_gr B C) : x_gr A C := ⟨Nat.le_trans h.1 g.1, Nat.le_trans h.2.1 g.2.1, g.2.2.trans h.2.2⟩
theorem x_gr_set {A : Hp} {a : Nat} {e : CE} : x_gr A (h_set A a e) := ⟨Nat.le_refl _, Nat.le_refl _, rfl⟩
theorem x_gr_push {A : Hp} {n : Nat} {e : CE} : x_gr A (h_push A e n) := ⟨Nat.le_succ _, Nat.le_add_right _ _, rfl⟩
theorem x_gr_iter {f : Hp → Hp} (hf : ∀ A, x_gr A (f A)) : ∀ (k : Nat) (A : Hp), x_gr A (x_iter f k A)
  | 0, A => x_gr.rf
  | k + 1, A => (x_gr_iter hf k A).tr (hf _)
theorem x_gr_multi : ∀ (ds : List Nat) (t : Nat) (A : Hp), x_gr A (x_multi ds t A)
  | [], _, _ => x_gr.rf
  | [n], t, A => x_gr_push
  | n :: (k :: r), t, A => x_gr_push.tr (x_gr_iter (x_gr_multi (k :: r) (x_sub t)) n _)
theorem x_gr_fldS {A A' : Hp} {a ci k : Nat} {v : Value} (h : x_fldS A a ci k v = some A') : x_gr A A' := by
  unfold x_fldS at h
  split at h
  · split at h
    · cases h; exact x_gr_set
    · cases h
  · cases h
theorem x_gr_aiS {A A' : Hp} {a : Nat} {i x : Int32} (h : x_aiS A a i x = some A') : x_gr A A' := by
  unfold x_aiS at h
  split at h
  · split at h
    · cases h; exact x_gr_set
    · cases h
  · cases h
theorem x_gr_abS {A A' : Hp} {a : Nat} {i x : Int32} (h : x_abS A a i x = some A') : x_gr A A' := by
  unfold x_abS at h
  split at h
  · split at h
    · cases h; exact x_gr_set
    · split at h
      · cases h; exact x_gr_set
      · cases h
  · cases h
theorem x_gr_alS {A A' : Hp} {a : Nat} {i : Int32} {x : Int64} (h : x_alS A a i x = some A') : x_gr A A' := by
  unfold x_alS at h
  split at h
  · split at h
    · cases h; exact x_gr_set
    · cases h
  · cases h
theorem x_gr_aqS {A A' : Hp} {a y : Nat} {i : Int32} (h : x_aqS A a i y = some A') : x_gr A A' := by
  unfold x_aqS at h
  split at h
  · split at h
    · split at h
      · cases h; exact x_gr_set
      · cases h
    · cases h
  · cases h
theorem x_gr_aqN {A A' : Hp} {a : Nat} {i : Int32} (h : x_aqN A a i = some A') : x_gr A A' := by
  unfold x_aqN at h
  split at h
  · split at h
    · cases h; exact x_gr_set
    · cases h
  · cases h
theorem x_gr_cpI {A A' : Hp} {a b : Nat} {sp dp n : Int32} (h : x_cpI A a b sp dp n = some A') : x_gr A A' := by
  unfold x_cpI at h
  split at h
  · split at h
    · cases h; exact x_gr_set
    · cases h
  · split at h
    · cases h; exact x_gr_set
    · cases h
  · cases h
theorem x_gr_cln {k : Nat} {A A' : Hp} {a : Nat} (h : x_cln k A a = some A') : x_gr A A' := by
  unfold x_cln at h
  split at h
  · split at h
    · cases h; exact x_gr_push
    · cases h
  · split at h
    · cases h
    · cases h; exact x_gr_push
  · cases h
theorem x_map_i {α β : Type} {o : Option α} {g : α → β} {z : β} (q : o.map g = some z) : ∃ v, o = some v ∧ g v = z := by
  cases o with
  | none => cases q
  | some v => exact ⟨v, rfl, Option.some.inj q⟩
theorem x_gr_jdk {o k : Nat} {st st' : List Value} {A A' : Hp} (h : x_jdk o k st A = some (st', A')) : x_gr A A' := by
  unfold x_jdk at h
  split at h
  · split at h
    · cases h; exact x_gr.rf
    · cases h
  · split at h
    · cases h; exact x_gr.rf
    · cases h
  · split at h
    · cases h; exact x_gr.rf
    · cases h
  · split at h
    · obtain ⟨v, hv, hz⟩ := x_map_i h; cases hz; exact x_gr_cpI hv
    · cases h
  · split at h
    · obtain ⟨v, hv, hz⟩ := x_map_i h; cases hz; exact x_gr.rf
    · cases h
  · split at h
    · split at h
      · split at h
        · cases h; exact x_gr.rf
        · cases h
      · cases h
    · cases h
  · split at h
    · split at h
      · cases h; exact x_gr.rf
      · cases h
    · cases h
  · split at h
    · obtain ⟨v, hv, hz⟩ := x_map_i h; cases hz; exact x_gr_cln hv
    · cases h
  · cases h
theorem x_gr_mem {m : Nat} {i : Instr} {st st' : List Value} {A A' : Hp} (h : x_mem m i st A = some (st', A')) : x_gr A A' := by
  unfold x_mem at h
  split at h
  · split at h
    · obtain ⟨v, hv, hz⟩ := x_map_i h; cases hz; exact x_gr.rf
    · cases h
  · split at h
    · split at h
      · obtain ⟨v, hv, hz⟩ := x_map_i h; cases hz; exact x_gr_fldS hv
      · cases h
    · cases h
  · split at h
    · obtain ⟨v, hv, hz⟩ := x_map_i h; cases hz; exact x_gr.rf
    · cases h
  · split at h
    · obtain ⟨v, hv, hz⟩ := x_map_i h; cases hz; exact x_gr.rf
    · cases h
  · split at h
    · obtain ⟨v, hv, hz⟩ := x_map_i h; cases hz; exact x_gr.rf
    · cases h
  · split at h
    · obtain ⟨v, hv, hz⟩ := x_map_i h; cases hz; exact x_gr.rf
    · cases h
  · split at h
    · obtain ⟨v, hv, hz⟩ := x_map_i h; cases hz; exact x_gr.rf
    · cases h
  · split at h
    · obtain ⟨v, hv, hz⟩ := x_map_i h; cases hz; exact x_gr_aiS hv
    · cases h
  · split at h
    · obtain ⟨v, hv, hz⟩ := x_map_i h; cases hz; exact x_gr_abS hv
    · cases h
  · split at h
    · obtain ⟨v, hv, hz⟩ := x_map_i h; cases hz; exact x_gr_alS hv
    · cases h
  · split at h
    · obtain ⟨v, hv, hz⟩ := x_map_i h; cases hz; exact x_gr_aqS hv
    · obtain ⟨v, hv, hz⟩ := x_map_i h; cases hz; exact x_gr_aqN hv
    · cases h
  · split at h
    · cases h; exact x_gr_push
    · cases h
  · split at h
    · split at h
      · cases h
      · cases h; exact x_gr_push
    · cases h
  · split at h
    · split at h
      · cases h
      · split at h
        · cases h; exact x_gr_push
        · split at h
          · cases h; exact x_gr_push
          · cases h
    · cases h
  · split at h
    · split at h
      · cases h; exact x_gr_multi _ _ _
      · cases h
    · cases h
  · split at h
    · split at h
      · split at h
        · cases h; exact x_gr.rf
        · cases h
      · cases h
    · cases h
  · split at h
    · cases h; exact x_gr.rf
    · cases h; exact x_gr.rf
    · cases h
  · split at h
    · cases h; exact x_gr.rf
    · cases h
  · split at h
    · cases h; exact x_gr.rf
    · cases h
  · split at h
    · exact x_gr_jdk h
    · cases h
  · split at h
    · exact x_gr_jdk h
    · cases h
  · split at h
    · exact x_gr_jdk h
    · cases h
  · cases h
theorem x_gr_loc {m : Nat} {i : Instr} {pc pc' : Nat} {l l' : Lc} {st st' : List Value} {A A' : Hp} (h : x_loc m i pc l st A = some (pc', l', st', A')) : x_gr A A' := by
  unfold x_loc at h
  split at h
  · cases h; exact x_gr.rf
  · split at h
    · cases h; exact x_gr.rf
    · split at h
      · cases h; exact x_gr.rf
      · split at h
        · rename_i hm; cases h; exact x_gr_mem hm
        · cases h
theorem x_gr_thr {m : Nat} {i : Instr} {l : Lc} {st : List Value} {A A' : Hp} {k : Nat} (h : x_thr m i l st A = some (k, A')) : x_gr A A' := by
  unfold x_thr at h
  split at h
  · split at h
    · obtain ⟨v, hv, hz⟩ := x_map_i h; cases hz; exact ⟨Nat.le_succ _, Nat.le_add_right _ _, rfl⟩
    · cases h
  · cases h
theorem x_gr_run : ∀ (f d m pc : Nat) (l : Lc) (st : List Value) (A : Hp) (o : XO) (A' : Hp), x_run f d m pc l st A = some (o, A') → x_gr A A'
  | 0, d, m, pc, l, st, A, o, A', h => by simp [x_run] at h
  | f + 1, d, m, pc, l, st, A, o, A', h => by
    rw [x_run] at h
    split at h
    · cases h
    · split at h
      · rename_i h2; exact (x_gr_loc h2).tr (x_gr_run f _ _ _ _ _ _ _ _ h)
      · split at h
        · cases h; exact x_gr.rf
        · split at h
          · rename_i h4; cases h; exact x_gr_thr h4
          · split at h
            · cases h
            · split at h
              · cases h
              · split at h
                · rename_i h6; exact (x_gr_run f _ _ _ _ _ _ _ _ h6).tr (x_gr_run f _ _ _ _ _ _ _ _ h)
                · rename_i h6
                  split at h
                  · split at h
                    · split at h
                      · exact (x_gr_run f _ _ _ _ _ _ _ _ h6).tr (x_gr_run f _ _ _ _ _ _ _ _ h)
                      · cases h
                    · cases h
                  · split at h
                    · cases h; exact x_gr_run f _ _ _ _ _ _ _ _ h6
                    · cases h
                · cases h

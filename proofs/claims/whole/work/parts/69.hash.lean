/-! a table of words, looked up from a word's own place on -/
abbrev Ent : Type := List Int × Nat × Nat
def HGood (hs : List Int → Nat) (E : Nat → Option Ent) (W : List (List Int)) : Prop :=
  (∀ s e, E s = some e → s < 32768 ∧ e.1 ∈ W ∧ e.2.2 = W.count e.1) ∧
  (∀ x ∈ W, ∃ j, j < 32768 ∧ (∃ e, E ((hs x + j) % 32768) = some e ∧ e.1 = x) ∧ ∀ i, i < j → ∃ e, E ((hs x + i) % 32768) = some e ∧ e.1 ≠ x) ∧
  (∀ s s' e e', E s = some e → E s' = some e' → e.1 = e'.1 → s = s')
theorem least {P : Nat → Prop} (hP : ∀ j, P j ∨ ¬ P j) : ∀ k, (∃ j, j < k ∧ P j) → ∃ j, j < k ∧ P j ∧ ∀ i, i < j → ¬ P i
  | 0, ⟨j, h, _⟩ => absurd h (Nat.not_lt_zero _)
  | k + 1, h => by
    by_cases c : ∃ j, j < k ∧ P j
    · obtain ⟨j, h1, h2, h3⟩ := least hP k c
      exact ⟨j, by omega, h2, h3⟩
    · obtain ⟨j, h1, h2⟩ := h
      have : j = k := by
        apply Classical.byContradiction
        intro hne
        exact c ⟨j, by omega, h2⟩
      subst this
      exact ⟨j, h1, h2, fun i hi hp => c ⟨i, hi, hp⟩⟩
theorem hprobe {hs : List Int → Nat} {E : Nat → Option Ent} {W D : List (List Int)} (h : HGood hs E W) (hD : ∀ x, x ∈ D ↔ x ∈ W) (hl : D.length < 32768) (x : List Int) : ∃ j, j < 32768 ∧ (∀ i, i < j → ∃ e, E ((hs x + i) % 32768) = some e ∧ e.1 ≠ x) ∧ ((x ∈ W ∧ ∃ e, E ((hs x + j) % 32768) = some e ∧ e.1 = x) ∨ (x ∉ W ∧ E ((hs x + j) % 32768) = none)) := by
  obtain ⟨h1, h2, h3⟩ := h
  by_cases c : x ∈ W
  · obtain ⟨j, j1, j2, j3⟩ := h2 x c
    exact ⟨j, j1, j3, Or.inl ⟨c, j2⟩⟩
  · have hex : ∃ j, j < 32768 ∧ E ((hs x + j) % 32768) = none := by
      apply Classical.byContradiction
      intro hno
      have all : ∀ j, j < 32768 → ∃ e, E ((hs x + j) % 32768) = some e := fun j hj => by
        cases he : E ((hs x + j) % 32768) with
        | none => exact absurd ⟨j, hj, he⟩ hno
        | some e => exact ⟨e, rfl⟩
      have := nd_lt (f := fun j => D.idxOf ((E ((hs x + j) % 32768)).getD ([], 0, 0)).1) D.length (List.range 32768) List.nodup_range (fun j hj => by
        obtain ⟨e, he⟩ := all j (List.mem_range.mp hj)
        rw [he]
        exact List.idxOf_lt_length_of_mem ((hD _).mpr (h1 _ e he).2.1)) (fun j hj j' hj' e => by
        obtain ⟨e1, he1⟩ := all j (List.mem_range.mp hj)
        obtain ⟨e2, he2⟩ := all j' (List.mem_range.mp hj')
        rw [he1, he2] at e
        have m1 := (hD _).mpr (h1 _ e1 he1).2.1
        have m2 := (hD _).mpr (h1 _ e2 he2).2.1
        have q1 := List.getElem_idxOf (List.idxOf_lt_length_of_mem m1)
        have q2 := List.getElem_idxOf (List.idxOf_lt_length_of_mem m2)
        have q : e1.1 = e2.1 := by
          rw [← q1, ← q2]
          congr 1
        have := h3 _ _ _ _ he1 he2 q
        have a := List.mem_range.mp hj
        have b := List.mem_range.mp hj'
        omega)
      rw [List.length_range] at this
      omega
    obtain ⟨j, j1, j2, j3⟩ := least (P := fun j => E ((hs x + j) % 32768) = none) (fun j => Classical.em _) 32768 hex
    refine ⟨j, j1, fun i hi => ?_, Or.inr ⟨c, j2⟩⟩
    cases he : E ((hs x + i) % 32768) with
    | none => exact absurd he (j3 i hi)
    | some e => exact ⟨e, rfl, fun hx => c (hx ▸ (h1 _ e he).2.1)⟩
theorem hnew {hs : List Int → Nat} {E : Nat → Option Ent} {W : List (List Int)} {x : List Int} {j p : Nat} (h : HGood hs E W) (hx : x ∉ W) (hj : j < 32768) (hp : ∀ i, i < j → ∃ e, E ((hs x + i) % 32768) = some e ∧ e.1 ≠ x) (he : E ((hs x + j) % 32768) = none) : HGood hs (up E ((hs x + j) % 32768) (some (x, p, 1))) (W ++ [x]) := by
  obtain ⟨h1, h2, h3⟩ := h
  have hcx : ∀ y, (W ++ [x]).count y = W.count y + if x == y then 1 else 0 := fun y => by rw [List.count_append, List.count_singleton]
  have h0 : W.count x = 0 := List.count_eq_zero.mpr hx
  have hne : ∀ s e, E s = some e → s ≠ (hs x + j) % 32768 := fun s e h1 h2 => by rw [h2, he] at h1; cases h1
  refine ⟨fun s e hs' => ?_, fun y hy => ?_, fun s s' e e' hs1 hs2 hee => ?_⟩
  · by_cases c : s = (hs x + j) % 32768
    · rw [c, up_same] at hs'
      cases hs'
      refine ⟨by omega, by simp, ?_⟩
      rw [hcx, h0]; simp
    · rw [up_ne c] at hs'
      obtain ⟨a1, a2, a3⟩ := h1 s e hs'
      refine ⟨a1, List.mem_append_left _ a2, ?_⟩
      have : x ≠ e.1 := fun h => hx (h ▸ a2)
      rw [hcx, a3]; simp [this]
  · by_cases cy : y ∈ W
    · obtain ⟨i, i1, ⟨e, i2, i3⟩, i4⟩ := h2 y cy
      refine ⟨i, i1, ⟨e, ?_, i3⟩, fun k hk => ?_⟩
      · rw [up_ne (hne _ _ i2)]; exact i2
      · obtain ⟨e', k1, k2⟩ := i4 k hk
        exact ⟨e', by rw [up_ne (hne _ _ k1)]; exact k1, k2⟩
    · have : y = x := by
        rcases List.mem_append.mp hy with h | h
        · exact absurd h cy
        · simpa using h
      subst this
      refine ⟨j, hj, ⟨_, up_same, rfl⟩, fun k hk => ?_⟩
      obtain ⟨e', k1, k2⟩ := hp k hk
      exact ⟨e', by rw [up_ne (hne _ _ k1)]; exact k1, k2⟩
  · by_cases c : s = (hs x + j) % 32768
    · by_cases c' : s' = (hs x + j) % 32768
      · rw [c, c']
      · rw [up_ne c'] at hs2
        rw [c, up_same] at hs1
        cases hs1
        exact absurd (show x ∈ W from (show x = e'.1 from hee) ▸ (h1 s' e' hs2).2.1) hx
    · rw [up_ne c] at hs1
      by_cases c' : s' = (hs x + j) % 32768
      · rw [c', up_same] at hs2
        cases hs2
        exact absurd (show x ∈ W from (show e.1 = x from hee) ▸ (h1 s e hs1).2.1) hx
      · rw [up_ne c'] at hs2
        exact h3 _ _ _ _ hs1 hs2 hee
theorem hold {hs : List Int → Nat} {E : Nat → Option Ent} {W : List (List Int)} {x : List Int} {s0 : Nat} {e0 : Ent} (h : HGood hs E W) (he : E s0 = some e0) (hx : e0.1 = x) : HGood hs (up E s0 (some (x, e0.2.1, e0.2.2 + 1))) (W ++ [x]) := by
  obtain ⟨h1, h2, h3⟩ := h
  have hcx : ∀ y, (W ++ [x]).count y = W.count y + if x == y then 1 else 0 := fun y => by rw [List.count_append, List.count_singleton]
  have hE : ∀ s e, up E s0 (some (x, e0.2.1, e0.2.2 + 1)) s = some e → ∃ e', E s = some e' ∧ e'.1 = e.1 := fun s e h => by
    by_cases c : s = s0
    · rw [c, up_same] at h
      cases h
      exact ⟨e0, by rw [c]; exact he, hx⟩
    · rw [up_ne c] at h
      exact ⟨e, h, rfl⟩
  have hE' : ∀ s e, E s = some e → ∃ e', up E s0 (some (x, e0.2.1, e0.2.2 + 1)) s = some e' ∧ e'.1 = e.1 := fun s e h => by
    by_cases c : s = s0
    · rw [c, he] at h
      cases h
      exact ⟨_, by rw [c, up_same], hx.symm⟩
    · exact ⟨e, by rw [up_ne c]; exact h, rfl⟩
  have hxW : x ∈ W := hx ▸ (h1 s0 e0 he).2.1
  refine ⟨fun s e hs' => ?_, fun y hy => ?_, fun s s' e e' hs1 hs2 hee => ?_⟩
  · by_cases c : s = s0
    · subst c
      rw [up_same] at hs'
      cases hs'
      have := h1 s e0 he
      refine ⟨this.1, List.mem_append_left _ hxW, ?_⟩
      have h2 := this.2.2
      rw [hx] at h2
      rw [hcx]; simp [h2]
    · rw [up_ne c] at hs'
      obtain ⟨a1, a2, a3⟩ := h1 s e hs'
      refine ⟨a1, List.mem_append_left _ a2, ?_⟩
      have : x ≠ e.1 := fun h => c (h3 s s0 e e0 hs' he (by rw [hx, h]))
      rw [hcx, a3]; simp [this]
  · have cy : y ∈ W := by
      rcases List.mem_append.mp hy with h | h
      · exact h
      · have : y = x := by simpa using h
        rw [this]; exact hxW
    obtain ⟨i, i1, ⟨e, i2, i3⟩, i4⟩ := h2 y cy
    obtain ⟨e', k1, k2⟩ := hE' _ _ i2
    refine ⟨i, i1, ⟨e', k1, k2.trans i3⟩, fun k hk => ?_⟩
    obtain ⟨e2, k3, k4⟩ := i4 k hk
    obtain ⟨e3, k5, k6⟩ := hE' _ _ k3
    exact ⟨e3, k5, by rw [k6]; exact k4⟩
  · obtain ⟨a, a1, a2⟩ := hE _ _ hs1
    obtain ⟨b, b1, b2⟩ := hE _ _ hs2
    exact h3 _ _ _ _ a1 b1 (by rw [a2, b2]; exact hee)
/-- the best of the slots below one -/
def HBest (E : Nat → Option Ent) (k : Nat) (m : Option Nat) : Prop := match m with
  | none => ∀ s, s < k → E s = none
  | some s => s < k ∧ ∃ e, E s = some e ∧ ∀ s', s' < k → ∀ e', E s' = some e' → e'.2.2 < e.2.2 ∨ (e'.2.2 = e.2.2 ∧ lexc e.1 e'.1 ≤ 0)
def HDist (W : List (List Int)) (u : Nat) : Prop := ∃ D : List (List Int), D.Nodup ∧ (∀ x, x ∈ D ↔ x ∈ W) ∧ D.length = u
theorem hres {hs : List Int → Nat} {E : Nat → Option Ent} {W : List (List Int)} {u : Nat} {m : Option Nat} (h : HGood hs E W) (hu : HDist W u) (hb : HBest E 32768 m) : WRes W u (match m with | none => 0 | some s => ((E s).getD ([], 0, 0)).2.2) (match m with | none => 0 | some s => ((E s).getD ([], 0, 0)).1.length) := by
  obtain ⟨h1, h2, h3⟩ := h
  refine ⟨hu, fun hw => ?_, fun hw => ?_⟩
  · cases m with
    | none => exact ⟨rfl, rfl⟩
    | some s =>
      obtain ⟨-, e, he, -⟩ := hb
      have := (h1 s e he).2.1
      rw [hw] at this
      nomatch this
  · have hin : ∀ x ∈ W, ∃ s, s < 32768 ∧ ∃ e, E s = some e ∧ e.1 = x := fun x hx => by
      obtain ⟨j, -, ⟨e, he, hex⟩, -⟩ := h2 x hx
      exact ⟨_, (h1 _ _ he).1, e, he, hex⟩
    cases m with
    | none =>
      cases W with
      | nil => exact absurd rfl hw
      | cons x W =>
        obtain ⟨s, s1, e, s2, -⟩ := hin x (List.mem_cons_self ..)
        rw [hb s s1] at s2
        cases s2
    | some s =>
      obtain ⟨-, e, he, hbe⟩ := hb
      dsimp only
      rw [he]
      have hs1 := h1 s e he
      refine ⟨e.1, hs1.2.1, hs1.2.2.symm, rfl, fun y hy => ?_⟩
      obtain ⟨s', s1, e', s2, s3⟩ := hin y hy
      have := hbe s' s1 e' s2
      have h4 := (h1 s' e' s2).2.2
      rw [s3] at h4 this
      show W.count y < e.2.2 ∨ (W.count y = e.2.2 ∧ lexc e.1 y ≤ 0)
      rw [← h4]
      exact this

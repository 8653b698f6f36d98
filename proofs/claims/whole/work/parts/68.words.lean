/-! the words of texts, how many unlike ones there can be, and a table of them -/
def wdsA : List Int → List Int → List (List Int)
  | [], a => if a = [] then [] else [a]
  | b :: r, a => if b = 32 then (if a = [] then wdsA r [] else a :: wdsA r []) else wdsA r (a ++ [b])
def wds (t : List Int) : List (List Int) := wdsA t []
def wsum (W : List (List Int)) : Nat := (W.map (fun x => x.length + 1)).sum
theorem wsum_cons {x : List Int} {W : List (List Int)} : wsum (x :: W) = x.length + 1 + wsum W := by unfold wsum; rw [List.map_cons, List.sum_cons]
theorem wsum_app {V W : List (List Int)} : wsum (V ++ W) = wsum V + wsum W := by unfold wsum; rw [List.map_append, List.sum_append]
theorem wdsA_sum : ∀ (r a : List Int), wsum (wdsA r a) ≤ r.length + a.length + 1
  | [], a => by
    unfold wdsA
    split
    · exact Nat.zero_le _
    · rw [wsum_cons]; show a.length + 1 + 0 ≤ 0 + a.length + 1; omega
  | b :: r, a => by
    unfold wdsA
    have h1 := wdsA_sum r []
    have h2 := wdsA_sum r (a ++ [b])
    rw [List.length_append] at h2
    rw [List.length_cons]
    simp only [List.length_nil, List.length_cons] at h1 h2
    split
    · split
      · omega
      · rw [wsum_cons]; omega
    · omega
theorem wdsA_ok : ∀ (r a : List Int), bOk r → (∀ b ∈ a, 97 ≤ b ∧ b ≤ 122) → ∀ x ∈ wdsA r a, x ≠ [] ∧ ∀ b ∈ x, 97 ≤ b ∧ b ≤ 122
  | [], a, _, ha, x, hx => by
    unfold wdsA at hx
    split at hx
    · nomatch hx
    · rename_i h
      have : x = a := by simpa using hx
      subst this
      exact ⟨h, ha⟩
  | b :: r, a, hr, ha, x, hx => by
    have hr' : bOk r := fun c hc => hr c (List.mem_cons_of_mem _ hc)
    unfold wdsA at hx
    split at hx
    · split at hx
      · exact wdsA_ok r [] hr' (fun c hc => nomatch hc) x hx
      · rename_i h
        rcases List.mem_cons.mp hx with rfl | hx
        · exact ⟨h, ha⟩
        · exact wdsA_ok r [] hr' (fun c hc => nomatch hc) x hx
    · rename_i h
      refine wdsA_ok r (a ++ [b]) hr' (fun c hc => ?_) x hx
      rcases List.mem_append.mp hc with hc | hc
      · exact ha c hc
      · have : c = b := by simpa using hc
        subst this
        rcases hr c (List.mem_cons_self ..) with h' | h'
        · exact absurd h' h
        · exact h'
theorem wds_ok {t : List Int} (h : bOk t) : ∀ x ∈ wds t, x ≠ [] ∧ ∀ b ∈ x, 97 ≤ b ∧ b ≤ 122 := wdsA_ok t [] h (fun c hc => nomatch hc)
/-- all the words up to a number -/
def wl_ (rs : List Rl) : Nat → List (List Int)
  | 0 => []
  | n + 1 => wl_ rs n ++ wds (tx rs n)
theorem wl_ok {rs : List Rl} (hr : rsOk rs) : ∀ n, ∀ x ∈ wl_ rs n, x ≠ [] ∧ ∀ b ∈ x, 97 ≤ b ∧ b ≤ 122
  | 0, x, hx => nomatch hx
  | n + 1, x, hx => by
    rcases List.mem_append.mp hx with hx | hx
    · exact wl_ok hr n x hx
    · refine wds_ok ?_ x hx
      unfold tx
      cases h : T rs n with
      | none => exact fun b hb => nomatch hb
      | some t => exact (T_ok hr h).1
theorem wl_sum {rs : List Rl} (hr : rsOk rs) : ∀ n, wsum (wl_ rs n) ≤ 101 * n
  | 0 => Nat.le_refl _
  | n + 1 => by
    show wsum (wl_ rs n ++ wds (tx rs n)) ≤ _
    rw [wsum_app]
    have h1 := wl_sum hr n
    have h2 := wdsA_sum (tx rs n) []
    have h3 : (tx rs n).length ≤ 100 := by
      unfold tx
      cases h : T rs n with
      | none => exact Nat.zero_le _
      | some t => exact (T_ok hr h).2
    unfold wds
    simp only [List.length_nil] at h2
    omega
theorem len_erase {α : Type} [BEq α] [LawfulBEq α] {l : List α} {x : α} (h : x ∈ l) : l.length = (l.erase x).length + 1 := by
  have := List.length_pos_of_mem h
  rw [List.length_erase_of_mem h]; omega
theorem nd_erase {α : Type} [BEq α] [LawfulBEq α] {l : List α} {x y : α} (h : l.Nodup) (hy : y ∈ l.erase x) : y ∈ l ∧ y ≠ x := by
  refine ⟨List.mem_of_mem_erase hy, fun e => ?_⟩
  subst e
  exact absurd hy (h.not_mem_erase)
theorem nd_lt {α : Type} [BEq α] [LawfulBEq α] {f : α → Nat} : ∀ (N : Nat) (l : List α), l.Nodup → (∀ x ∈ l, f x < N) → (∀ x ∈ l, ∀ y ∈ l, f x = f y → x = y) → l.length ≤ N
  | 0, [], _, _, _ => Nat.le_refl _
  | 0, x :: l, _, h, _ => absurd (h x (List.mem_cons_self ..)) (Nat.not_lt_zero _)
  | N + 1, l, hn, h, hi => by
    by_cases c : ∃ x, x ∈ l ∧ f x = N
    · obtain ⟨x, hx, hf⟩ := c
      have := nd_lt N (l.erase x) (hn.erase x) (fun y hy => by
        obtain ⟨h1, h2⟩ := nd_erase hn hy
        have := h y h1
        have : f y ≠ N := fun e => h2 (hi y h1 x hx (e.trans hf.symm))
        omega) (fun y hy z hz => hi y (List.mem_of_mem_erase hy) z (List.mem_of_mem_erase hz))
      rw [len_erase hx]; omega
    · have := nd_lt N l hn (fun y hy => by
        have h1 := h y hy
        have : f y ≠ N := fun e => c ⟨y, hy, e⟩
        omega) hi
      omega
theorem wsum_erase {x : List Int} : ∀ {W : List (List Int)}, x ∈ W → wsum W = x.length + 1 + wsum (W.erase x)
  | [], h => nomatch h
  | y :: W, h => by
    by_cases c : y = x
    · subst c
      rw [List.erase_cons_head, wsum_cons]
    · have hx : x ∈ W := by
        rcases List.mem_cons.mp h with h | h
        · exact absurd h.symm c
        · exact h
      rw [List.erase_cons_tail (by simpa using c), wsum_cons, wsum_cons, wsum_erase hx]
      omega
theorem wsum_nd : ∀ (D W : List (List Int)), D.Nodup → (∀ x ∈ D, x ∈ W) → wsum D ≤ wsum W
  | [], W, _, _ => Nat.zero_le _
  | x :: D, W, hn, h => by
    have hx := h x (List.mem_cons_self ..)
    obtain ⟨n1, n2⟩ := List.nodup_cons.mp hn
    have := wsum_nd D (W.erase x) n2 (fun y hy => (List.mem_erase_of_ne (fun e : y = x => n1 (by rw [← e]; exact hy))).mpr (h y (List.mem_cons_of_mem _ hy)))
    rw [wsum_cons, wsum_erase hx]
    omega
/-- a short word's number -/
def wcode : List Int → Nat
  | [a] => (a - 97).toNat
  | [a, b] => 26 + 26 * (a - 97).toNat + (b - 97).toNat
  | _ => 0
theorem wcode_ok {x y : List Int} (hx : x ≠ [] ∧ ∀ b ∈ x, 97 ≤ b ∧ b ≤ 122) (hy : y ≠ [] ∧ ∀ b ∈ y, 97 ≤ b ∧ b ≤ 122) (h1 : x.length ≤ 2) (h2 : y.length ≤ 2) : wcode x < 702 ∧ (wcode x = wcode y → x = y) := by
  match x, y, hx, hy, h1, h2 with
  | [], _, hx, _, _, _ => exact absurd rfl hx.1
  | _, [], _, hy, _, _ => exact absurd rfl hy.1
  | [a], [b], hx, hy, _, _ =>
    have ha := hx.2 a (by simp)
    have hb := hy.2 b (by simp)
    simp only [wcode]
    exact ⟨by omega, fun e => by rw [show a = b by omega]⟩
  | [a], [b, c], hx, hy, _, _ =>
    have ha := hx.2 a (by simp)
    simp only [wcode]
    exact ⟨by omega, fun e => by omega⟩
  | [a, a'], [b], hx, hy, _, _ =>
    have ha := hx.2 a (by simp)
    have ha' := hx.2 a' (by simp)
    have hb := hy.2 b (by simp)
    simp only [wcode]
    exact ⟨by omega, fun e => by omega⟩
  | [a, a'], [b, b'], hx, hy, _, _ =>
    have ha := hx.2 a (by simp)
    have ha' := hx.2 a' (by simp)
    have hb := hy.2 b (by simp)
    have hb' := hy.2 b' (by simp)
    simp only [wcode]
    exact ⟨by omega, fun e => by rw [show a = b by omega, show a' = b' by omega]⟩
theorem wsum_long : ∀ (D : List (List Int)), (∀ x ∈ D, x.length ≠ 0) → 4 * D.length ≤ wsum D + 2 * (D.filter (fun x => decide (x.length ≤ 2))).length
  | [], _ => Nat.zero_le _
  | x :: D, h => by
    have ih := wsum_long D (fun y hy => h y (List.mem_cons_of_mem _ hy))
    have h0 := h x (List.mem_cons_self ..)
    rw [wsum_cons, List.length_cons, List.filter_cons]
    split
    · rw [List.length_cons]; omega
    · rename_i c
      have : ¬ x.length ≤ 2 := by simpa using c
      omega
/-- unlike words are few -/
theorem wfew {W D : List (List Int)} (hs : wsum W ≤ 101101) (hw : ∀ x ∈ W, x ≠ [] ∧ ∀ b ∈ x, 97 ≤ b ∧ b ≤ 122) (hn : D.Nodup) (hD : ∀ x ∈ D, x ∈ W) : D.length < 32768 := by
  have h1 := wsum_nd D W hn hD
  have h2 := wsum_long D (fun x hx h => (hw x (hD x hx)).1 (List.eq_nil_of_length_eq_zero h))
  have h3 : (D.filter (fun x => decide (x.length ≤ 2))).length ≤ 702 := by
    refine nd_lt (f := wcode) 702 _ (hn.filter _) (fun x hx => ?_) (fun x hx y hy => ?_)
    · obtain ⟨m1, m2⟩ := List.mem_filter.mp hx
      exact (wcode_ok (hw x (hD x m1)) (hw x (hD x m1)) (by simpa using m2) (by simpa using m2)).1
    · obtain ⟨m1, m2⟩ := List.mem_filter.mp hx
      obtain ⟨m3, m4⟩ := List.mem_filter.mp hy
      exact (wcode_ok (hw x (hD x m1)) (hw y (hD y m3)) (by simpa using m2) (by simpa using m4)).2
  omega
/-- what is counted of words: unlike ones, the most times, the letters of the first word said so often -/
def WRes (W : List (List Int)) (u m l : Nat) : Prop := (∃ D : List (List Int), D.Nodup ∧ (∀ x, x ∈ D ↔ x ∈ W) ∧ D.length = u) ∧ (W = [] → m = 0 ∧ l = 0) ∧ (W ≠ [] → ∃ x, x ∈ W ∧ W.count x = m ∧ x.length = l ∧ ∀ y ∈ W, W.count y < m ∨ (W.count y = m ∧ lexc x y ≤ 0))
theorem nd_len {α : Type} [BEq α] [LawfulBEq α] : ∀ (D E : List α), D.Nodup → (∀ x ∈ D, x ∈ E) → D.length ≤ E.length
  | [], _, _, _ => Nat.zero_le _
  | x :: D, E, hn, h => by
    have hx := h x (List.mem_cons_self ..)
    obtain ⟨n1, n2⟩ := List.nodup_cons.mp hn
    have := nd_len D (E.erase x) n2 (fun y hy => (List.mem_erase_of_ne (fun e : y = x => n1 (by rw [← e]; exact hy))).mpr (h y (List.mem_cons_of_mem _ hy)))
    rw [List.length_cons, len_erase hx]
    omega
theorem WRes_uniq {W : List (List Int)} {u m l u' m' l' : Nat} (hw : ∀ x ∈ W, x ≠ [] ∧ ∀ b ∈ x, 97 ≤ b ∧ b ≤ 122) (h : WRes W u m l) (h' : WRes W u' m' l') : u = u' ∧ m = m' ∧ l = l' := by
  obtain ⟨⟨D, d1, d2, d3⟩, e1, f1⟩ := h
  obtain ⟨⟨D', d1', d2', d3'⟩, e1', f1'⟩ := h'
  have a1 := nd_len D D' d1 (fun x hx => (d2' x).mpr ((d2 x).mp hx))
  have a2 := nd_len D' D d1' (fun x hx => (d2 x).mpr ((d2' x).mp hx))
  refine ⟨by omega, ?_⟩
  by_cases c : W = []
  · have := e1 c; have := e1' c; omega
  · obtain ⟨x, x1, x2, x3, x4⟩ := f1 c
    obtain ⟨y, y1, y2, y3, y4⟩ := f1' c
    have h1 := x4 y y1
    have h2 := y4 x x1
    have hm : m = m' := by omega
    refine ⟨hm, ?_⟩
    have l1 : lexc x y ≤ 0 := by omega
    have l2 : lexc y x ≤ 0 := by omega
    have l3 := lexc_neg x y
    have : x = y := (lexc_0 (fun b hb => by have := (hw x x1).2 b hb; omega) (fun b hb => by have := (hw y y1).2 b hb; omega)).mp (by omega)
    rw [← x3, ← y3, this]

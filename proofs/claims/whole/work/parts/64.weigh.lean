/-! the chart: ways to hear a text -/
def WOk (l : List Int) (st en : List Nat) : Prop := st.length = en.length ∧ (∀ i, i < st.length → st.getD i 0 < en.getD i 0 ∧ en.getD i 0 ≤ l.length) ∧ (∀ i j, i < j → j < st.length → en.getD i 0 < st.getD j 0) ∧ bOk l
theorem getD_snoc {L : List Nat} {x i : Nat} : (L ++ [x]).getD i 0 = if i < L.length then L.getD i 0 else if i = L.length then x else 0 := by
  rw [List.getD_eq_getElem?_getD, List.getD_eq_getElem?_getD, List.getElem?_append]
  by_cases h : i < L.length
  · rw [if_pos h, if_pos h]
  · rw [if_neg h, if_neg h]
    by_cases h2 : i = L.length
    · rw [if_pos h2, h2, Nat.sub_self]; rfl
    · rw [if_neg h2, show i - L.length = (i - L.length - 1) + 1 by omega]; rfl
theorem getD_dropLast {L : List Nat} {i : Nat} (h : i < L.length - 1) : L.dropLast.getD i 0 = L.getD i 0 := by
  rw [List.getD_eq_getElem?_getD, List.getD_eq_getElem?_getD, List.getElem?_dropLast, if_pos h]
theorem spl_ok : ∀ (t : List Int) (inW : Bool) (l : List Int) (st en : List Nat) (l' : List Int) (st' en' : List Nat), WOk l st en → st.length ≤ 40 → (inW = true → st ≠ []) → spl t inW l st en = some (l', st', en') → WOk l' st' en' ∧ st'.length ≤ 40 ∧ l'.length ≤ l.length + t.length + (if inW = true ∨ st = [] then 0 else 1)
  | [], inW, l, st, en, l', st', en', hw, h40, hi, e => by
    unfold spl at e
    cases e
    exact ⟨hw, h40, by simp⟩
  | b :: r, inW, l, st, en, l', st', en', hw, h40, hi, e => by
    obtain ⟨w1, w2, w3, w4⟩ := hw
    unfold spl at e
    by_cases cL : isl b = true
    · rw [if_pos cL] at e
      have hb := isl_sb' cL
      cases inW with
      | true =>
        rw [if_pos rfl] at e
        have hne := hi rfl
        have hpos : 0 < st.length := List.length_pos_iff.mpr hne
        have hdl : en.dropLast.length = st.length - 1 := by rw [List.length_dropLast]; omega
        have := spl_ok r true (l ++ [b]) st (en.dropLast ++ [l.length + 1]) l' st' en' ⟨by rw [List.length_append, hdl]; show st.length = st.length - 1 + 1; omega, fun i h => ?_, fun i j hij hj => ?_, fun x hx => ?_⟩ h40 (fun _ => hne) e
        · refine ⟨this.1, this.2.1, ?_⟩
          have h3 := this.2.2
          rw [List.length_append, if_pos (Or.inl rfl)] at h3
          rw [if_pos (Or.inl rfl), List.length_cons]
          simp only [List.length_cons, List.length_nil] at h3
          omega
        · rw [getD_snoc, hdl, List.length_append]
          have := w2 i h
          by_cases c : i < st.length - 1
          · rw [if_pos c, getD_dropLast (by omega)]; simp only [List.length_cons, List.length_nil]; omega
          · rw [if_neg c, if_pos (by omega)]; simp only [List.length_cons, List.length_nil]; omega
        · rw [getD_snoc, hdl, if_pos (by omega), getD_dropLast (by omega)]
          exact w3 i j hij hj
        · rcases List.mem_append.mp hx with h | h
          · exact w4 x h
          · have : x = b := by simpa using h
            subst this; exact Or.inr hb.2
      | false =>
        rw [if_neg (by decide)] at e
        by_cases c4 : 40 ≤ st.length
        · rw [if_pos c4] at e; cases e
        · rw [if_neg c4] at e
          have hl1 : (if st = [] then l else l ++ [32]).length = l.length + (if st = [] then 0 else 1) := by
            split
            · rfl
            · rw [List.length_append]; rfl
          have hl2 : bOk (if st = [] then l else l ++ [32]) := by
            split
            · exact w4
            · intro x hx
              rcases List.mem_append.mp hx with h | h
              · exact w4 x h
              · left; simpa using h
          generalize hll : (if st = [] then l else l ++ [32]) = l1 at *
          have := spl_ok r true (l1 ++ [b]) (st ++ [l1.length]) (en ++ [l1.length + 1]) l' st' en' ⟨by rw [List.length_append, List.length_append, w1]; rfl, fun i h => ?_, fun i j hij hj => ?_, fun x hx => ?_⟩ (by rw [List.length_append]; show st.length + 1 ≤ 40; omega) (fun _ => by simp) e
          · refine ⟨this.1, this.2.1, ?_⟩
            have h3 := this.2.2
            rw [List.length_append, if_pos (Or.inl rfl), hl1] at h3
            rw [List.length_cons]
            simp only [List.length_cons, List.length_nil] at h3
            by_cases c : st = []
            · rw [if_pos (Or.inr c)]; rw [if_pos c] at h3; omega
            · rw [if_neg (by simp [c])]; rw [if_neg c] at h3; omega
          · rw [getD_snoc, getD_snoc, List.length_append, ← w1]
            rw [List.length_append] at h
            by_cases c : i < st.length
            · have := w2 i c
              rw [if_pos c, if_pos c]; omega
            · have hi2 : i = st.length := by simp at h; omega
              rw [if_neg c, if_neg c, if_pos hi2, if_pos hi2]; simp
          · rw [List.length_append] at hj
            have hj : j < st.length + 1 := by simpa using hj
            rw [getD_snoc, getD_snoc, ← w1, if_pos (by omega)]
            by_cases c : j < st.length
            · rw [if_pos c]; exact w3 i j hij c
            · rw [if_neg c, if_pos (by omega)]
              have := (w2 i (by omega)).2
              have hne : st ≠ [] := List.length_pos_iff.mp (by omega)
              rw [if_neg hne] at hl1
              omega
          · rcases List.mem_append.mp hx with h | h
            · exact hl2 x h
            · have : x = b := by simpa using h
              subst this; exact Or.inr hb.2
    · rw [if_neg cL] at e
      by_cases c32 : b = 32
      · rw [if_pos c32] at e
        have := spl_ok r false l st en l' st' en' ⟨w1, w2, w3, w4⟩ h40 (fun h => by cases h) e
        refine ⟨this.1, this.2.1, ?_⟩
        have h3 := this.2.2
        rw [List.length_cons]
        by_cases c : st = []
        · rw [if_pos (Or.inr c)] at h3 ⊢; omega
        · rw [if_neg (by simp [c])] at h3
          split <;> omega
      · rw [if_neg c32] at e; cases e
theorem spl_ok0 {t l : List Int} {st en : List Nat} (e : spl t false [] [] [] = some (l, st, en)) : WOk l st en ∧ st.length ≤ 40 ∧ l.length ≤ t.length := by
  have := spl_ok t false [] [] [] l st en ⟨rfl, (fun i h => nomatch h), (fun i j _ h => nomatch h), by intro b hb; cases hb⟩ (by decide) (fun h => by cases h) e
  rw [if_pos (Or.inr rfl)] at this
  simpa using this
/-- the words from i on, up to the k-th -/
def strt (l : List Int) (st en : List Nat) (i k : Nat) : List Int := (l.drop (st.getD i 0)).take (en.getD (k - 1) 0 - st.getD i 0)
theorem strt_len {l : List Int} {st en : List Nat} {i k : Nat} (h : WOk l st en) (hik : i < k) (hk : k ≤ st.length) : (strt l st en i k).length = en.getD (k - 1) 0 - st.getD i 0 ∧ st.getD i 0 < en.getD (k - 1) 0 ∧ en.getD (k - 1) 0 ≤ l.length := by
  obtain ⟨w1, w2, w3, -⟩ := h
  have a := w2 (k - 1) (by omega)
  have b := w2 i (by omega)
  have : st.getD i 0 < en.getD (k - 1) 0 := by
    by_cases c : i = k - 1
    · rw [c]; exact a.1
    · have := w3 i (k - 1) (by omega) (by omega); omega
  unfold strt
  rw [List.length_take, List.length_drop]
  exact ⟨by omega, this, a.2⟩
theorem strt_mono {l : List Int} {st en : List Nat} {i k k' : Nat} (h : WOk l st en) (hik : i < k) (hkk : k ≤ k') (hk : k' ≤ st.length) : (strt l st en i k).length ≤ (strt l st en i k').length := by
  rw [(strt_len h hik (by omega)).1, (strt_len h (by omega : i < k') hk).1]
  obtain ⟨w1, w2, w3, -⟩ := h
  by_cases c : k = k'
  · rw [c]; omega
  · have a := w3 (k - 1) (k' - 1) (by omega) (by omega)
    have b := w2 (k' - 1) (by omega)
    omega
def chC (rs : List Rl) (p : Nat) (l : List Int) (st en : List Nat) (i k : Nat) : Nat := (rd rs p (strt l st en i k)).length
def chL (rs : List Rl) (p : Nat) (l : List Int) (st en : List Nat) (i k : Nat) : Int := fstz (rd rs p (strt l st en i k))
theorem rd_long {rs : List Rl} {p : Nat} {t : List Int} (hr : rsOk rs) (h : 100 < t.length) : rd rs p t = [] := by
  rw [List.eq_nil_iff_forall_not_mem]
  intro n hn
  have := (T_ok hr (rd_mem.mp hn).2).2
  omega
theorem rd_bd {rs : List Rl} {p : Nat} {t : List Int} : (rd rs p t).length ≤ p + 1 := by
  have := List.length_filter_le (fun n : Nat => decide (T rs n = some t)) (List.range (p + 1))
  rw [List.length_range] at this
  exact this
theorem fstz_bd {rs : List Rl} {p : Nat} {t : List Int} : -1 ≤ fstz (rd rs p t) ∧ fstz (rd rs p t) ≤ p := by
  cases h : rd rs p t with
  | nil => unfold fstz; dsimp only; omega
  | cons x L =>
    have : x ∈ rd rs p t := by rw [h]; exact List.mem_cons_self ..
    have := (rd_mem.mp this).1
    unfold fstz; dsimp only; omega
abbrev CE4 : Type := Int × Int × Int × Int
/-- one more stretch from the word i -/
def chK (c : Nat → Nat → Nat) (ls : Nat → Nat → Int) (E : Nat → CE4) (i : Nat) : Nat → CE4
  | 0 => (0, -1, -1, -1)
  | q + 1 => if c i (i + 1 + q) = 0 then chK c ls E i q else
      (min 1000000000 ((chK c ls E i q).1 + c i (i + 1 + q) * (E (i + 1 + q)).1),
       if (E (i + 1 + q)).2.1 ≠ -1 ∧ ((chK c ls E i q).2.1 = -1 ∨ (E (i + 1 + q)).2.1 + 1 ≤ (chK c ls E i q).2.1) then ((E (i + 1 + q)).2.1 + 1, ((i + 1 + q : Nat) : Int), ls i (i + 1 + q)) else (chK c ls E i q).2)
def chE (c : Nat → Nat → Nat) (ls : Nat → Nat → Int) (m : Nat) : Nat → Nat → CE4
  | 0, _ => (1, 0, -1, -1)
  | j + 1, i => if i + (j + 1) = m then chK c ls (chE c ls m j) i (m - i) else chE c ls m j i
def hcn (c : Nat → Nat → Nat) (m : Nat) : Nat → Nat
  | 0 => 0
  | j + 1 => hcn c m j + cnt (fun q => decide (c (m - (j + 1)) (m - (j + 1) + 1 + q) ≠ 0)) (j + 1)
theorem chK_stop {c : Nat → Nat → Nat} {ls : Nat → Nat → Int} {E : Nat → CE4} {i q : Nat} : ∀ r, q ≤ r → (∀ x, q ≤ x → x < r → c i (i + 1 + x) = 0) → chK c ls E i r = chK c ls E i q ∧ cnt (fun q => decide (c i (i + 1 + q) ≠ 0)) r = cnt (fun q => decide (c i (i + 1 + q) ≠ 0)) q
  | 0, hq, _ => by
    have : q = 0 := by omega
    subst this; exact ⟨rfl, rfl⟩
  | r + 1, hq, h => by
    by_cases e : q = r + 1
    · subst e; exact ⟨rfl, rfl⟩
    · have ih := chK_stop (ls := ls) (E := E) r (by omega) (fun x h1 h2 => h x h1 (by omega))
      have h0 := h r (by omega) (by omega)
      rw [chK, if_pos h0, cnt, if_neg (by simp [h0]), Nat.add_zero]
      exact ih
theorem chK_bd {c : Nat → Nat → Nat} {ls : Nat → Nat → Int} {E : Nat → CE4} {i m : Nat} (hm : m ≤ 40) (hE : ∀ k, i < k → k ≤ m → 0 ≤ (E k).1 ∧ (E k).1 ≤ 1000000000 ∧ -1 ≤ (E k).2.1 ∧ (E k).2.1 ≤ (m - k : Nat)) : ∀ q, i + q ≤ m → 0 ≤ (chK c ls E i q).1 ∧ (chK c ls E i q).1 ≤ 1000000000 ∧ -1 ≤ (chK c ls E i q).2.1 ∧ (chK c ls E i q).2.1 ≤ (m - i : Nat)
  | 0, _ => by unfold chK; dsimp only; omega
  | q + 1, hq => by
    have ih := chK_bd hm hE (c := c) (ls := ls) q (by omega)
    have e := hE (i + 1 + q) (by omega) (by omega)
    unfold chK
    split
    · exact ih
    · have hp : 0 ≤ (c i (i + 1 + q) : Int) * (E (i + 1 + q)).1 := Int.mul_nonneg (by omega) e.1
      dsimp only
      refine ⟨by omega, by omega, ?_, ?_⟩
      · split
        · dsimp only; omega
        · omega
      · split
        · dsimp only; omega
        · omega
theorem chE_bd {c : Nat → Nat → Nat} {ls : Nat → Nat → Int} {m : Nat} (hm : m ≤ 40) : ∀ j k, m ≤ k + j → k ≤ m → 0 ≤ (chE c ls m j k).1 ∧ (chE c ls m j k).1 ≤ 1000000000 ∧ -1 ≤ (chE c ls m j k).2.1 ∧ (chE c ls m j k).2.1 ≤ (m - k : Nat)
  | 0, k, h1, h2 => by unfold chE; dsimp only; omega
  | j + 1, k, h1, h2 => by
    unfold chE
    split
    · exact chK_bd hm (fun k' h3 h4 => chE_bd hm j k' (by omega) h4) (m - k) (by omega)
    · exact chE_bd hm j k (by omega) h2
theorem hcn_bd {c : Nat → Nat → Nat} {m : Nat} : ∀ j, j ≤ 40 → hcn c m j ≤ 40 * j
  | 0, _ => Nat.le_refl _
  | j + 1, h => by
    have := hcn_bd (c := c) (m := m) j (by omega)
    have := cnt_le (fun q => decide (c (m - (j + 1)) (m - (j + 1) + 1 + q) ≠ 0)) (j + 1)
    unfold hcn
    omega
theorem wl_ite {c : Prop} [Decidable c] {a b : Int} : (if c then wl a else wl b) = wl (if c then a else b) := by
  split <;> rfl

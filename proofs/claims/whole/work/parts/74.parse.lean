/-! how a text is read: positions, numbers, words, rules -/
abbrev PR (α : Type) : Type := (α × Nat) ⊕ (Int × Nat)
def isd (b : Int) : Bool := decide (48 ≤ b) && decide (b ≤ 57)
def bt (t : List Int) (k : Nat) : Int := if k < t.length then t.getD k 0 else -1
/-- where a run ends -/
def run (f : Int → Bool) (t : List Int) (p : Nat) : Nat := p + ((t.drop p).takeWhile f).length
theorem run_s {f : Int → Bool} {t : List Int} {p : Nat} (h : p < t.length) (hf : f (t.getD p 0) = true) : run f t p = run f t (p + 1) := by
  unfold run
  rw [drop_cons h, List.takeWhile_cons, if_pos hf, List.length_cons]
  omega
theorem run_e {f : Int → Bool} {t : List Int} {p : Nat} (hf : t.length ≤ p ∨ f (t.getD p 0) = false) : run f t p = p := by
  unfold run
  by_cases h : p < t.length
  · rcases hf with hf | hf
    · omega
    · rw [drop_cons h, List.takeWhile_cons, hf]; rfl
  · rw [List.drop_eq_nil_of_le (by omega)]; rfl
theorem run_ge {f : Int → Bool} {t : List Int} {p : Nat} : p ≤ run f t p := Nat.le_add_right _ _
theorem run_le {f : Int → Bool} {t : List Int} {p : Nat} (h : p ≤ t.length) : run f t p ≤ t.length := by
  unfold run
  have := (List.takeWhile_sublist (p := f) (l := t.drop p)).length_le
  rw [List.length_drop] at this
  omega
theorem tw_imp {f : Int → Bool} : ∀ {l : List Int}, ∀ b ∈ l.takeWhile f, f b = true
  | [], b, hb => nomatch hb
  | x :: l, b, hb => by
    rw [List.takeWhile_cons] at hb
    split at hb
    · rename_i hx
      rcases List.mem_cons.mp hb with rfl | hb
      · exact hx
      · exact tw_imp b hb
    · nomatch hb
theorem run_mem {f : Int → Bool} {t : List Int} {p : Nat} : (t.drop p).take (run f t p - p) = (t.drop p).takeWhile f := by
  unfold run
  rw [Nat.add_sub_cancel_left]
  have h := List.takeWhile_append_dropWhile (p := f) (l := t.drop p)
  generalize (t.drop p).takeWhile f = a at *
  rw [← h]
  exact List.take_left
theorem run_all {f : Int → Bool} {t : List Int} {p : Nat} : ∀ b ∈ (t.drop p).take (run f t p - p), f b = true := by
  rw [run_mem]
  intro b hb
  exact tw_imp b hb
theorem run_stop {f : Int → Bool} {t : List Int} {p : Nat} : t.length ≤ run f t p ∨ f (t.getD (run f t p) 0) = false := by
  by_cases h : run f t p < t.length
  · right
    have hp : p ≤ t.length := by have := run_ge (f := f) (t := t) (p := p); omega
    have key : ∀ (j q : Nat), q + j = t.length → t.length ≤ run f t q ∨ f (t.getD (run f t q) 0) = false := by
      intro j
      induction j with
      | zero => intro q hq; left; have := run_ge (f := f) (t := t) (p := q); omega
      | succ j ih =>
        intro q hq
        cases hf : f (t.getD q 0) with
        | true => rw [run_s (by omega) hf]; exact ih (q + 1) (by omega)
        | false => rw [run_e (Or.inr hf)]; exact Or.inr hf
    rcases key (t.length - p) p (by omega) with h' | h'
    · omega
    · exact h'
  · left; omega
theorem run_run {f : Int → Bool} {t : List Int} {p : Nat} : run f t (run f t p) = run f t p := run_e run_stop
def isb (b : Int) : Bool := decide (b = 32)
def skb (t : List Int) (p : Nat) : Nat := run isb t p
def wde (t : List Int) (p : Nat) : Nat := run isl t p
def dge (t : List Int) (p : Nat) : Nat := run isd t p
def nv : List Int → Int → Int
  | [], v => v
  | b :: r, v => nv r (if 999999999 < v then v else 10 * v + b - 48)
def nvr (t : List Int) (p : Nat) (v : Int) : Int := nv ((t.drop p).takeWhile isd) v
theorem nvr_s {t : List Int} {p : Nat} {v : Int} (h : p < t.length) (hf : isd (t.getD p 0) = true) : nvr t p v = nvr t (p + 1) (if 999999999 < v then v else 10 * v + t.getD p 0 - 48) := by
  unfold nvr
  rw [drop_cons h, List.takeWhile_cons, if_pos hf]
  rfl
theorem nvr_e {t : List Int} {p : Nat} {v : Int} (hf : t.length ≤ p ∨ isd (t.getD p 0) = false) : nvr t p v = v := by
  unfold nvr
  by_cases h : p < t.length
  · rcases hf with hf | hf
    · omega
    · rw [drop_cons h, List.takeWhile_cons, hf]; rfl
  · rw [List.drop_eq_nil_of_le (by omega)]; rfl
def kw (t s : List Int) (p : Nat) : Option Nat := if (t.drop (skb t p)).take (wde t (skb t p) - skb t p) = s then some (wde t (skb t p)) else none
def kwL : List Int := [108, 97, 110, 103, 117, 97, 103, 101]
def kwSay : List Int := [115, 97, 121]
def kwTo : List Int := [116, 111]
def kwEv : List Int := [101, 118, 101, 114, 121]
def kwAs : List Int := [97, 115]
def pNum (t : List Int) (lo hi : Int) (p : Nat) : PR Int :=
  if dge t (skb t p) = skb t p then .inr (1, skb t p) else if nvr t (skb t p) 0 < lo ∨ hi < nvr t (skb t p) 0 then .inr (2, skb t p) else .inl (nvr t (skb t p) 0, dge t (skb t p))
def pHead (t : List Int) : PR Int := match kw t kwL 0 with
  | none => .inr (1, skb t 0)
  | some p => match pNum t 0 1 p with
    | .inr e => .inr e
    | .inl (l, q) => if bt t (skb t q) = 59 then .inl (l, skb t q + 1) else .inr (1, skb t q)
def pTo (t : List Int) (a : Int) (p : Nat) : PR Int := match kw t kwTo p with
  | some q => pNum t a 999999999 q
  | none => .inl (a, skb t p)
def pEvery (t : List Int) (p : Nat) : PR (Int × Int) := match kw t kwEv p with
  | none => .inl ((1, 0), skb t p)
  | some q => match pNum t 1 9999 q with
    | .inr e => .inr e
    | .inl (D, q2) => match pNum t 0 (D - 1) q2 with
      | .inr e => .inr e
      | .inl (R, q3) => .inl ((D, R), q3)
def pRange (t : List Int) (p : Nat) : PR (Int × Int × Int × Int) := match pNum t 0 999999999 p with
  | .inr e => .inr e
  | .inl (a, p1) => match pTo t a p1 with
    | .inr e => .inr e
    | .inl (b, p2) => match pEvery t p2 with
      | .inr e => .inr e
      | .inl ((D, R), p3) => match kw t kwAs p3 with
        | none => .inr (1, skb t p3)
        | some p4 => .inl ((a, b, D, R), p4)
def kdH (b : Int) : Int := if b = 47 then 1 else if b = 37 then 2 else if b = 35 then 3 else if b = 45 then 4 else if b = 43 then 5 else if b = 126 then 6 else if isl b = true then 0 else -1
def pItem (t : List Int) (kd : Int) (s : Nat) : PR It :=
  if kd = 0 then (if 8 < wde t s - s then .inr (1, s) else .inl ((0, ((wde t s - s : Nat) : Int), (t.drop s).take (wde t s - s)), wde t s))
  else if kd = 6 then .inl ((6, 0, []), s + 1)
  else match pNum t 1 999999 (s + 1) with
    | .inr e => .inr e
    | .inl (v, q) => .inl ((kd, v, []), q)
def pItems (t : List Int) : Nat → List It → Option Nat → Nat → PR (List It)
  | 0, _, _, p => .inr (3, p)
  | f + 1, its, gl, p =>
    if bt t (skb t p) = 59 ∧ its ≠ [] then (match gl with | none => .inl (its, skb t p + 1) | some g => .inr (4, g))
    else if kdH (bt t (skb t p)) = -1 then .inr (1, skb t p)
    else if 6 ≤ its.length then .inr (3, skb t p)
    else if kdH (bt t (skb t p)) = 6 ∧ (its = [] ∨ gl ≠ none) then .inr (4, skb t p)
    else match pItem t (kdH (bt t (skb t p))) (skb t p) with
      | .inr e => .inr e
      | .inl (it, q) => pItems t f (its ++ [it]) (if kdH (bt t (skb t p)) = 6 then some (skb t p) else none) q
def pRule (t : List Int) (p : Nat) : PR Rl := match pRange t p with
  | .inr e => .inr e
  | .inl (x, q) => match pItems t 7 [] none q with
    | .inr e => .inr e
    | .inl (its, q2) => .inl ((x.1, x.2.1, x.2.2.1, x.2.2.2, its), q2)
def pRules (t : List Int) (room : Nat) : Nat → List Rl → Nat → List Rl ⊕ (Int × Nat)
  | 0, rs, _ => .inl rs
  | f + 1, rs, p =>
    if t.length ≤ skb t p then .inl rs
    else match kw t kwSay (skb t p) with
      | none => .inr (1, skb t p)
      | some q => if room ≤ rs.length then .inr (3, skb t p) else match pRule t q with
        | .inr e => .inr e
        | .inl (ρ, q2) => pRules t room f (rs ++ [ρ]) q2
def pText (t : List Int) (room : Int → Nat) : (Int × List Rl) ⊕ (Int × Nat) := match pHead t with
  | .inr e => .inr e
  | .inl (l, p) => match pRules t (room l) 31 [] p with
    | .inr e => .inr e
    | .inl rs => .inl (l, rs)
theorem skb_skb {t : List Int} {p : Nat} : skb t (skb t p) = skb t p := run_run
theorem skb_le {t : List Int} {p : Nat} (h : p ≤ t.length) : skb t p ≤ t.length := run_le h
theorem bt_in {t : List Int} {p : Nat} {z : Int} (h : bt t p = z) (hz : z ≠ -1) : p < t.length ∧ t.getD p 0 = z := by
  unfold bt at h
  split at h
  · exact ⟨by assumption, h⟩
  · exact absurd h.symm hz
theorem kw_ok {t s : List Int} {p q : Nat} (h : kw t s p = some q) (hp : p ≤ t.length) : q ≤ t.length ∧ q = skb t p + s.length ∧ q = wde t (skb t p) := by
  unfold kw at h
  split at h
  · rename_i hs
    cases h
    have h1 := skb_le hp
    have h2 : wde t (skb t p) ≤ t.length := run_le h1
    have h3 : skb t p ≤ wde t (skb t p) := run_ge
    refine ⟨h2, ?_, rfl⟩
    rw [← hs, List.length_take, List.length_drop]
    omega
  · cases h
theorem pNum_ok {t : List Int} {lo hi v : Int} {p q : Nat} (h : pNum t lo hi p = .inl (v, q)) (hp : p ≤ t.length) : q ≤ t.length ∧ lo ≤ v ∧ v ≤ hi := by
  unfold pNum at h
  split at h
  · cases h
  · split at h
    · cases h
    · cases h
      have : dge t (skb t p) ≤ t.length := run_le (skb_le hp)
      exact ⟨this, by omega, by omega⟩
theorem pHead_ok {t : List Int} {l : Int} {q : Nat} (h : pHead t = .inl (l, q)) : q ≤ t.length ∧ 0 ≤ l ∧ l ≤ 1 := by
  unfold pHead at h
  split at h
  · cases h
  · rename_i p hp
    have hp := (kw_ok hp (Nat.zero_le _)).1
    split at h
    · cases h
    · rename_i l' q' hn
      have hn := pNum_ok hn hp
      split at h
      · rename_i h59
        cases h
        have := (bt_in h59 (by decide)).1
        exact ⟨by omega, hn.2⟩
      · cases h
theorem pTo_ok {t : List Int} {a b : Int} {p q : Nat} (h : pTo t a p = .inl (b, q)) (hp : p ≤ t.length) (ha : a ≤ 999999999) : q ≤ t.length ∧ a ≤ b ∧ b ≤ 999999999 := by
  unfold pTo at h
  split at h
  · rename_i q' hk
    exact pNum_ok h (kw_ok hk hp).1
  · cases h
    exact ⟨skb_le hp, Int.le_refl _, ha⟩
theorem pEvery_ok {t : List Int} {x : Int × Int} {p q : Nat} (h : pEvery t p = .inl (x, q)) (hp : p ≤ t.length) : q ≤ t.length ∧ 1 ≤ x.1 ∧ x.1 ≤ 9999 ∧ 0 ≤ x.2 ∧ x.2 < x.1 := by
  unfold pEvery at h
  split at h
  · cases h
    exact ⟨skb_le hp, by decide⟩
  · rename_i q1 hk
    have h1 := (kw_ok hk hp).1
    split at h
    · cases h
    · rename_i D q2 hn
      have h2 := pNum_ok hn h1
      split at h
      · cases h
      · rename_i R q3 hn2
        have h3 := pNum_ok hn2 h2.1
        cases h
        exact ⟨h3.1, h2.2.1, h2.2.2, h3.2.1, by show R < D; omega⟩
theorem pRange_ok {t : List Int} {x : Int × Int × Int × Int} {p q : Nat} (h : pRange t p = .inl (x, q)) (hp : p ≤ t.length) : q ≤ t.length ∧ 0 ≤ x.1 ∧ x.1 ≤ x.2.1 ∧ x.2.1 ≤ 999999999 ∧ 1 ≤ x.2.2.1 ∧ x.2.2.1 ≤ 9999 ∧ 0 ≤ x.2.2.2 ∧ x.2.2.2 < x.2.2.1 := by
  unfold pRange at h
  split at h
  · cases h
  · rename_i a p1 h1
    have h1 := pNum_ok h1 hp
    split at h
    · cases h
    · rename_i b p2 h2
      have h2 := pTo_ok h2 h1.1 h1.2.2
      split at h
      · cases h
      · rename_i D R p3 h3
        have h3 := pEvery_ok h3 h2.1
        split at h
        · cases h
        · rename_i p4 h4
          have h4 := (kw_ok h4 h3.1).1
          cases h
          exact ⟨h4, h1.2.1, h2.2.1, h2.2.2, h3.2⟩
theorem kdH_0 {b : Int} (h : kdH b = 0) : isl b = true := by
  unfold kdH at h
  repeat (split at h; first | omega | skip)
  all_goals first | assumption | omega
theorem kdH_bd {b : Int} : -1 ≤ kdH b ∧ kdH b ≤ 6 := by
  unfold kdH
  repeat (split; omega)
  omega
theorem pItem_ok {t : List Int} {kd : Int} {s q : Nat} {it : It} (h : pItem t kd s = .inl (it, q)) (hs : s < t.length) (hk : kd = kdH (t.getD s 0)) (h1 : kd ≠ -1) : q ≤ t.length ∧ itOk it ∧ it.1 = kd := by
  have hbd := kdH_bd (b := t.getD s 0)
  unfold pItem at h
  split at h
  · rename_i h0
    split at h
    · cases h
    · cases h
      have h2 : wde t s ≤ t.length := run_le (by omega)
      have h4 : isl (t.getD s 0) = true := kdH_0 (by rw [← hk]; exact h0)
      have h3 : s + 1 ≤ wde t s := by unfold wde; rw [run_s hs h4]; exact run_ge
      have hl : ((t.drop s).take (wde t s - s)).length = wde t s - s := by rw [List.length_take, List.length_drop]; omega
      refine ⟨h2, Or.inl ⟨rfl, by dsimp only; omega, by dsimp only; omega, by dsimp only; rw [hl], fun b hb => ?_⟩, h0.symm⟩
      have := run_all b hb
      unfold isl at this
      simpa using this
  · split at h
    · rename_i h6
      cases h
      exact ⟨by omega, Or.inr (Or.inr ⟨rfl, rfl⟩), h6.symm⟩
    · split at h
      · cases h
      · rename_i v q' hn
        have := pNum_ok hn (by omega)
        cases h
        exact ⟨this.1, Or.inr (Or.inl ⟨by dsimp only; omega, by dsimp only; omega, this.2.1, this.2.2⟩), rfl⟩
theorem pItems_ok {t : List Int} : ∀ (f : Nat) (its its' : List It) (gl : Option Nat) (p q : Nat), pItems t f its gl p = .inl (its', q) → p ≤ t.length → its.length ≤ 6 → (∀ it ∈ its, itOk it) → q ≤ t.length ∧ 1 ≤ its'.length ∧ its'.length ≤ 6 ∧ ∀ it ∈ its', itOk it
  | 0, its, its', gl, p, q, h, _, _, _ => by cases h
  | f + 1, its, its', gl, p, q, h, hp, hl, ho => by
    have hs := skb_le hp
    unfold pItems at h
    split at h
    · rename_i hc
      split at h
      · cases h
        have := (bt_in hc.1 (by decide)).1
        exact ⟨by omega, List.length_pos_iff.mpr hc.2, hl, ho⟩
      · cases h
    · split at h
      · cases h
      · rename_i hk
        have hin : skb t p < t.length ∧ bt t (skb t p) = t.getD (skb t p) 0 := by
          unfold bt
          split
          · exact ⟨by assumption, rfl⟩
          · rename_i hn
            exfalso
            apply hk
            unfold bt
            rw [if_neg hn]
            decide
        split at h
        · cases h
        · rename_i h6
          split at h
          · cases h
          · split at h
            · cases h
            · rename_i it q' hi
              have hi := pItem_ok hi hin.1 (by rw [hin.2]) hk
              refine pItems_ok f _ _ _ _ _ h hi.1 (by rw [List.length_append]; show its.length + 1 ≤ 6; omega) (fun it' hit => ?_)
              rcases List.mem_append.mp hit with h' | h'
              · exact ho _ h'
              · have : it' = it := by simpa using h'
                rw [this]; exact hi.2.1
theorem pRule_ok {t : List Int} {p q : Nat} {ρ : Rl} (h : pRule t p = .inl (ρ, q)) (hp : p ≤ t.length) : q ≤ t.length ∧ rlOk ρ := by
  unfold pRule at h
  split at h
  · cases h
  · rename_i x q1 h1
    have h1 := pRange_ok h1 hp
    split at h
    · cases h
    · rename_i its q2 h2
      have h2 := pItems_ok _ _ _ _ _ _ h2 h1.1 (Nat.zero_le _) (fun it hit => nomatch hit)
      cases h
      exact ⟨h2.1, h1.2.1, h1.2.2.1, h1.2.2.2.1, h1.2.2.2.2.1, h1.2.2.2.2.2.1, h1.2.2.2.2.2.2.1, h1.2.2.2.2.2.2.2, h2.2⟩

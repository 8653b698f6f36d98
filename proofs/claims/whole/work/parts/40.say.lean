/-! what is said: rules, sayings with all their bounds, sayings without, and how the two stand -/
abbrev It : Type := Int × Int × List Int
abbrev Rl : Type := Int × Int × Int × Int × List It
abbrev C4 : Type := Int × Int × Int × Int
abbrev SR : Type := (List Int × Int) ⊕ List C4
abbrev EV : Type := List Int × Int × Nat
def rl_fit (ρ : Rl) (n : Int) : Bool := decide (ρ.1 ≤ n) && decide (n ≤ ρ.2.1) && decide (n % ρ.2.2.1 = ρ.2.2.2.1)
def ff (rs : List Rl) (n : Int) : Option Nat := rs.findIdx? (fun ρ => rl_fit ρ n)
/-- what an item of a kind from 1 to 5 asks for -/
def want (kd v n : Int) : Option Int := if kd = 1 then some (n / v) else if kd = 2 then (if n % v = 0 then none else some (n % v)) else if kd = 3 then some (n % v) else if kd = 4 then some (n - v) else some (n + v)
def itOk (it : It) : Prop := (it.1 = 0 ∧ 1 ≤ it.2.2.length ∧ it.2.2.length ≤ 8 ∧ it.2.1 = it.2.2.length ∧ ∀ b ∈ it.2.2, 97 ≤ b ∧ b ≤ 122) ∨ (1 ≤ it.1 ∧ it.1 ≤ 5 ∧ 1 ≤ it.2.1 ∧ it.2.1 ≤ 999999) ∨ (it.1 = 6 ∧ it.2.1 = 0)
def rlOk (ρ : Rl) : Prop := 0 ≤ ρ.1 ∧ ρ.1 ≤ ρ.2.1 ∧ ρ.2.1 ≤ 999999999 ∧ 1 ≤ ρ.2.2.1 ∧ ρ.2.2.1 ≤ 9999 ∧ 0 ≤ ρ.2.2.2.1 ∧ ρ.2.2.2.1 < ρ.2.2.1 ∧ 1 ≤ ρ.2.2.2.2.length ∧ ρ.2.2.2.2.length ≤ 6 ∧ ∀ it ∈ ρ.2.2.2.2, itOk it
/-- a part behind a text: a blank between, unless one is empty or there is glue -/
def cat (t : List Int) (g : Bool) (p : List Int) : List Int := if t ≠ [] ∧ g = false then t ++ 32 :: p else t ++ p
def sayIs (ask : Int → Int → SR) (z k : Int) : List It → Int → List Int → Bool → Int → SR
  | [], _, t, _, a => .inl (t, a)
  | it :: r, i, t, g, a =>
    if it.1 = 6 then sayIs ask z k r (i + 1) t true a
    else if it.1 = 0 then (if 100 < (cat t g it.2.2).length then .inr [(z, 5, k, i)] else sayIs ask z k r (i + 1) (cat t g it.2.2) false a)
    else match want it.1 it.2.1 z with
      | none => sayIs ask z k r (i + 1) t g a
      | some q => match ask (a + 1) q with
        | .inr cs => .inr ((z, 0, k, i) :: cs)
        | .inl (p, b) => if p = [] then sayIs ask z k r (i + 1) t g b else if 100 < (cat t g p).length then .inr [(z, 5, k, i)] else sayIs ask z k r (i + 1) (cat t g p) false b
def say (rs : List Rl) : Nat → List Int → Int → Int → SR
  | 0, op, _, z => if z < 0 ∨ 999999999 < z then .inr [(z, 2, -1, -1)] else if z ∈ op then .inr [(z, 3, -1, -1)] else .inr [(z, 4, -1, -1)]
  | f + 1, op, a, z => if z < 0 ∨ 999999999 < z then .inr [(z, 2, -1, -1)] else if z ∈ op then .inr [(z, 3, -1, -1)] else if 1000 < a then .inr [(z, 6, -1, -1)] else match ff rs z with
    | none => .inr [(z, 1, -1, -1)]
    | some k => match rs[k]? with
      | none => .inr []
      | some ρ => sayIs (say rs f (z :: op)) z k ρ.2.2.2.2 0 [] false a
def evIs (ask : Int → Option EV) (z : Int) : List It → List Int → Bool → Int → Nat → Option EV
  | [], t, _, a, h => some (t, a, h)
  | it :: r, t, g, a, h =>
    if it.1 = 6 then evIs ask z r t true a h
    else if it.1 = 0 then (if 100 < (cat t g it.2.2).length then none else evIs ask z r (cat t g it.2.2) false a h)
    else match want it.1 it.2.1 z with
      | none => evIs ask z r t g a h
      | some q => match ask q with
        | none => none
        | some (p, b, k) => if p = [] then evIs ask z r t g (a + 1 + b) (max h (k + 1)) else if 100 < (cat t g p).length then none else evIs ask z r (cat t g p) false (a + 1 + b) (max h (k + 1))
def ev (rs : List Rl) : Nat → Int → Option EV
  | 0, _ => none
  | f + 1, z => if z < 0 ∨ 999999999 < z then none else match ff rs z with
    | none => none
    | some k => match rs[k]? with
      | none => none
      | some ρ => evIs (ev rs f) z ρ.2.2.2.2 [] false 0 1
/-- asks of an item: kinds 1 to 5 -/
def asks (it : It) (z q : Int) : Prop := it.1 ≠ 6 ∧ it.1 ≠ 0 ∧ want it.1 it.2.1 z = some q
theorem evIs_ge {ask : Int → Option EV} {z : Int} (hb : ∀ q x, ask q = some x → 0 ≤ x.2.1) : ∀ (its : List It) (t : List Int) (g : Bool) (a : Int) (h : Nat) (x : EV), evIs ask z its t g a h = some x → a ≤ x.2.1 ∧ h ≤ x.2.2 ∧ ∀ it ∈ its, ∀ q, asks it z q → ∃ y, ask q = some y ∧ y.2.2 + 1 ≤ x.2.2 ∧ a + 1 + y.2.1 ≤ x.2.1
  | [], t, g, a, h, x, e => by
    cases e
    exact ⟨Int.le_refl _, Nat.le_refl _, fun it hit => nomatch hit⟩
  | it :: r, t, g, a, h, x, e => by
    unfold evIs at e
    by_cases h6 : it.1 = 6
    · rw [if_pos h6] at e
      obtain ⟨g1, g2, g3⟩ := evIs_ge hb r _ _ _ _ _ e
      refine ⟨g1, g2, fun it' hit q hq => ?_⟩
      rcases List.mem_cons.mp hit with rfl | hit
      · exact absurd h6 hq.1
      · exact g3 it' hit q hq
    · rw [if_neg h6] at e
      by_cases h0 : it.1 = 0
      · rw [if_pos h0] at e
        split at e
        · cases e
        · obtain ⟨g1, g2, g3⟩ := evIs_ge hb r _ _ _ _ _ e
          refine ⟨g1, g2, fun it' hit q hq => ?_⟩
          rcases List.mem_cons.mp hit with rfl | hit
          · exact absurd h0 hq.2.1
          · exact g3 it' hit q hq
      · rw [if_neg h0] at e
        cases hw : want it.1 it.2.1 z with
        | none =>
          rw [hw] at e
          obtain ⟨g1, g2, g3⟩ := evIs_ge hb r _ _ _ _ _ e
          refine ⟨g1, g2, fun it' hit q hq => ?_⟩
          rcases List.mem_cons.mp hit with rfl | hit
          · have := hq.2.2; rw [hw] at this; cases this
          · exact g3 it' hit q hq
        | some q0 =>
          rw [hw] at e
          dsimp only at e
          cases ha : ask q0 with
          | none => rw [ha] at e; cases e
          | some y =>
            obtain ⟨p, b, k⟩ := y
            rw [ha] at e
            dsimp only at e
            have hb0 := hb _ _ ha
            dsimp only at hb0
            have key : ∀ t' g', evIs ask z r t' g' (a + 1 + b) (max h (k + 1)) = some x → a ≤ x.2.1 ∧ h ≤ x.2.2 ∧ ∀ it' ∈ it :: r, ∀ q, asks it' z q → ∃ y, ask q = some y ∧ y.2.2 + 1 ≤ x.2.2 ∧ a + 1 + y.2.1 ≤ x.2.1 := by
              intro t' g' e
              obtain ⟨g1, g2, g3⟩ := evIs_ge hb r _ _ _ _ _ e
              refine ⟨by omega, by omega, fun it' hit q hq => ?_⟩
              rcases List.mem_cons.mp hit with rfl | hit
              · have := hq.2.2
                rw [hw] at this
                cases this
                exact ⟨_, ha, by dsimp only; omega, by dsimp only; omega⟩
              · obtain ⟨y, h1, h2, h3⟩ := g3 it' hit q hq
                exact ⟨y, h1, h2, by omega⟩
            split at e
            · exact key _ _ e
            · split at e
              · cases e
              · exact key _ _ e
theorem evIs_sub {ask ask' : Int → Option EV} {z : Int} (hb : ∀ q x, ask q = some x → 0 ≤ x.2.1) {H : Nat} (hs : ∀ q x, ask q = some x → x.2.2 + 1 ≤ H → ask' q = some x) : ∀ (its : List It) (t : List Int) (g : Bool) (a : Int) (h : Nat) (x : EV), x.2.2 ≤ H → evIs ask z its t g a h = some x → evIs ask' z its t g a h = some x
  | [], t, g, a, h, x, _, e => e
  | it :: r, t, g, a, h, x, hx, e => by
    unfold evIs at e ⊢
    by_cases h6 : it.1 = 6
    · rw [if_pos h6] at e ⊢
      exact evIs_sub hb hs r _ _ _ _ _ hx e
    · rw [if_neg h6] at e ⊢
      by_cases h0 : it.1 = 0
      · rw [if_pos h0] at e ⊢
        split at e
        · cases e
        · rename_i hl
          rw [if_neg hl]
          exact evIs_sub hb hs r _ _ _ _ _ hx e
      · rw [if_neg h0] at e ⊢
        cases hw : want it.1 it.2.1 z with
        | none =>
          rw [hw] at e
          exact evIs_sub hb hs r _ _ _ _ _ hx e
        | some q0 =>
          rw [hw] at e
          dsimp only at e ⊢
          cases ha : ask q0 with
          | none => rw [ha] at e; cases e
          | some y =>
            obtain ⟨p, b, k⟩ := y
            rw [ha] at e
            dsimp only at e
            have hk : k + 1 ≤ H := by
              split at e
              · have := (evIs_ge hb r _ _ _ _ _ e).2.1; omega
              · split at e
                · cases e
                · have := (evIs_ge hb r _ _ _ _ _ e).2.1; omega
            rw [hs _ _ ha hk]
            dsimp only
            split at e
            · rename_i hp; rw [if_pos hp]; exact evIs_sub hb hs r _ _ _ _ _ hx e
            · rename_i hp
              rw [if_neg hp]
              split at e
              · cases e
              · rename_i hl; rw [if_neg hl]; exact evIs_sub hb hs r _ _ _ _ _ hx e
theorem ev_in {rs : List Rl} {f : Nat} {z : Int} {x : EV} (h : ev rs (f + 1) z = some x) : 0 ≤ z ∧ z ≤ 999999999 ∧ ∃ (k : Nat) (ρ : Rl), ff rs z = some k ∧ rs[k]? = some ρ ∧ evIs (ev rs f) z ρ.2.2.2.2 [] false 0 1 = some x := by
  unfold ev at h
  split at h
  · cases h
  · rename_i hz
    refine ⟨by omega, by omega, ?_⟩
    split at h
    · cases h
    · rename_i k hk
      split at h
      · cases h
      · rename_i ρ hρ
        exact ⟨k, ρ, hk, hρ, h⟩
theorem ev_out {rs : List Rl} {f : Nat} {z : Int} {x : EV} {k : Nat} {ρ : Rl} (h1 : 0 ≤ z) (h2 : z ≤ 999999999) (h3 : ff rs z = some k) (h4 : rs[k]? = some ρ) (h5 : evIs (ev rs f) z ρ.2.2.2.2 [] false 0 1 = some x) : ev rs (f + 1) z = some x := by
  unfold ev
  rw [if_neg (by omega), h3]
  dsimp only
  rw [h4]
  exact h5
theorem ev_pos {rs : List Rl} : ∀ (f : Nat) (z : Int) (x : EV), ev rs f z = some x → 0 ≤ x.2.1 ∧ 1 ≤ x.2.2 ∧ x.2.2 ≤ f
  | 0, z, x, h => nomatch h
  | f + 1, z, x, h => by
    obtain ⟨h1, h2, k, ρ, h3, h4, h5⟩ := ev_in h
    have := evIs_ge (fun q x hx => (ev_pos f q x hx).1) _ _ _ _ _ _ h5
    refine ⟨this.1, this.2.1, ?_⟩
    have hm : ∀ (its : List It) (t : List Int) (g : Bool) (a : Int) (h : Nat) (x : EV), h ≤ f + 1 → evIs (ev rs f) z its t g a h = some x → x.2.2 ≤ f + 1 := by
      intro its
      induction its with
      | nil => intro t g a h x hh e; cases e; exact hh
      | cons it r ih =>
        intro t g a h x hh e
        unfold evIs at e
        split at e
        · exact ih _ _ _ _ _ hh e
        · split at e
          · split at e
            · cases e
            · exact ih _ _ _ _ _ hh e
          · split at e
            · exact ih _ _ _ _ _ hh e
            · split at e
              · cases e
              · rename_i p b k ha
                have := (ev_pos f _ _ ha).2.2
                dsimp only at this
                split at e
                · exact ih _ _ _ _ _ (by omega) e
                · split at e
                  · cases e
                  · exact ih _ _ _ _ _ (by omega) e
    exact hm _ _ _ _ _ _ (by omega) h5
theorem ev_at {rs : List Rl} : ∀ (f : Nat) (z : Int) (x : EV), ev rs f z = some x → ∀ g, x.2.2 ≤ g → ev rs g z = some x
  | 0, z, x, h, _, _ => nomatch h
  | f + 1, z, x, h, g, hg => by
    have hp := ev_pos _ _ _ h
    obtain ⟨h1, h2, k, ρ, h3, h4, h5⟩ := ev_in h
    match g, hg with
    | 0, hg => omega
    | g + 1, hg =>
      refine ev_out h1 h2 h3 h4 (evIs_sub (fun q x hx => (ev_pos f q x hx).1) (H := x.2.2) (fun q y hy hle => ev_at f q y hy g (by omega)) _ _ _ _ _ _ (Nat.le_refl _) h5)
theorem ev_det {rs : List Rl} {f g : Nat} {z : Int} {x y : EV} (h1 : ev rs f z = some x) (h2 : ev rs g z = some y) : x = y := by
  have e1 := ev_at f z x h1 (max x.2.2 y.2.2) (by omega)
  have e2 := ev_at g z y h2 (max x.2.2 y.2.2) (by omega)
  rw [e1] at e2
  exact Option.some.inj e2
/-- all that a number's items ask for is of less height -/
theorem ev_ask {rs : List Rl} {f : Nat} {z q : Int} {x : EV} {k : Nat} {ρ : Rl} {it : It} (h : ev rs f z = some x) (h3 : ff rs z = some k) (h4 : rs[k]? = some ρ) (h5 : it ∈ ρ.2.2.2.2) (h6 : asks it z q) : ∃ g y, ev rs g q = some y ∧ y.2.2 < x.2.2 := by
  cases f with
  | zero => cases h
  | succ f =>
    obtain ⟨-, -, k', ρ', g3, g4, g5⟩ := ev_in h
    rw [h3] at g3
    cases g3
    rw [h4] at g4
    cases g4
    obtain ⟨y, h1, h2, -⟩ := (evIs_ge (fun q x hx => (ev_pos f q x hx).1) _ _ _ _ _ _ g5).2.2 it h5 q h6
    exact ⟨f, y, h1, h2⟩
/-- what is said within the bounds is said without them -/
theorem say_evIs {ask : Int → Int → SR} {ask0 : Int → Option EV} {z k : Int} (hs : ∀ a q t b, ask a q = .inl (t, b) → ∃ h, ask0 q = some (t, b - a, h) ∧ a ≤ b ∧ b ≤ 1000) : ∀ (its : List It) (i : Int) (t : List Int) (g : Bool) (a : Int) (t' : List Int) (b : Int), a ≤ 1000 → sayIs ask z k its i t g a = .inl (t', b) → a ≤ b ∧ b ≤ 1000 ∧ ∀ (a0 : Int) (h0 : Nat), ∃ h', evIs ask0 z its t g a0 h0 = some (t', a0 + (b - a), h')
  | [], i, t, g, a, t', b, ha, e => by
    cases e
    exact ⟨Int.le_refl _, ha, fun a0 h0 => ⟨h0, by show some (t, a0, h0) = some (t, a0 + (a - a), h0); rw [Int.sub_self, Int.add_zero]⟩⟩
  | it :: r, i, t, g, a, t', b, ha, e => by
    unfold sayIs at e
    by_cases h6 : it.1 = 6
    · rw [if_pos h6] at e
      obtain ⟨g1, g2, g3⟩ := say_evIs hs r _ _ _ _ _ _ ha e
      refine ⟨g1, g2, fun a0 h0 => ?_⟩
      unfold evIs
      rw [if_pos h6]
      exact g3 a0 h0
    · rw [if_neg h6] at e
      by_cases h0 : it.1 = 0
      · rw [if_pos h0] at e
        split at e
        · cases e
        · rename_i hl
          obtain ⟨g1, g2, g3⟩ := say_evIs hs r _ _ _ _ _ _ ha e
          refine ⟨g1, g2, fun a0 h0' => ?_⟩
          unfold evIs
          rw [if_neg h6, if_pos h0, if_neg hl]
          exact g3 a0 h0'
      · rw [if_neg h0] at e
        cases hw : want it.1 it.2.1 z with
        | none =>
          rw [hw] at e
          obtain ⟨g1, g2, g3⟩ := say_evIs hs r _ _ _ _ _ _ ha e
          refine ⟨g1, g2, fun a0 h0' => ?_⟩
          unfold evIs
          rw [if_neg h6, if_neg h0, hw]
          exact g3 a0 h0'
        | some q0 =>
          rw [hw] at e
          dsimp only at e
          split at e
          · cases e
          · rename_i p b' hask
            obtain ⟨hq, e0, l1, l2⟩ := hs _ _ _ _ hask
            split at e
            · rename_i hp
              obtain ⟨g1, g2, g3⟩ := say_evIs hs r _ _ _ _ _ _ l2 e
              refine ⟨by omega, g2, fun a0 h0' => ?_⟩
              obtain ⟨h', g3⟩ := g3 (a0 + 1 + (b' - (a + 1))) (max h0' (hq + 1))
              refine ⟨h', ?_⟩
              unfold evIs
              rw [if_neg h6, if_neg h0, hw]
              dsimp only
              rw [e0]
              dsimp only
              rw [if_pos hp, g3]
              congr 3
              omega
            · rename_i hp
              split at e
              · cases e
              · rename_i hl
                obtain ⟨g1, g2, g3⟩ := say_evIs hs r _ _ _ _ _ _ l2 e
                refine ⟨by omega, g2, fun a0 h0' => ?_⟩
                obtain ⟨h', g3⟩ := g3 (a0 + 1 + (b' - (a + 1))) (max h0' (hq + 1))
                refine ⟨h', ?_⟩
                unfold evIs
                rw [if_neg h6, if_neg h0, hw]
                dsimp only
                rw [e0]
                dsimp only
                rw [if_neg hp, if_neg hl, g3]
                congr 3
                omega
theorem say_ev {rs : List Rl} : ∀ (f : Nat) (op : List Int) (a z : Int) (t : List Int) (b : Int), say rs f op a z = .inl (t, b) → ∃ h, ev rs f z = some (t, b - a, h) ∧ a ≤ b ∧ b ≤ 1000
  | 0, op, a, z, t, b, e => by
    unfold say at e
    split at e
    · cases e
    · split at e <;> cases e
  | f + 1, op, a, z, t, b, e => by
    unfold say at e
    split at e
    · cases e
    · rename_i hz
      split at e
      · cases e
      · split at e
        · cases e
        · rename_i ha
          split at e
          · cases e
          · rename_i k hk
            split at e
            · cases e
            · rename_i ρ hρ
              obtain ⟨g1, g2, g3⟩ := say_evIs (ask0 := ev rs f) (fun a q t b h => say_ev f (z :: op) a q t b h) _ _ _ _ _ _ _ (by omega) e
              obtain ⟨h', g3⟩ := g3 0 1
              rw [Int.zero_add] at g3
              exact ⟨h', ev_out (by omega) (by omega) hk hρ g3, g1, g2⟩
/-- and the other way, where the bounds hold and none that is being said is in the way -/
theorem ev_sayIs {ask : Int → Int → SR} {ask0 : Int → Option EV} {z k : Int} {H : Nat} {B : Int} (hb : ∀ q x, ask0 q = some x → 0 ≤ x.2.1) (hs : ∀ a q x, 0 ≤ a → ask0 q = some x → x.2.2 + 1 ≤ H → a + x.2.1 ≤ B → ask a q = .inl (x.1, a + x.2.1)) : ∀ (its : List It) (i : Int) (t : List Int) (g : Bool) (a a0 : Int) (h0 : Nat) (x : EV), 0 ≤ a → x.2.2 ≤ H → a + (x.2.1 - a0) ≤ B → evIs ask0 z its t g a0 h0 = some x → sayIs ask z k its i t g a = .inl (x.1, a + (x.2.1 - a0))
  | [], i, t, g, a, a0, h0, x, _, _, _, e => by
    cases e
    show (Sum.inl (t, a) : SR) = .inl (t, a + (a0 - a0))
    rw [Int.sub_self, Int.add_zero]
  | it :: r, i, t, g, a, a0, h0, x, ha, hx, hB, e => by
    unfold evIs at e
    unfold sayIs
    by_cases h6 : it.1 = 6
    · rw [if_pos h6] at e ⊢
      exact ev_sayIs hb hs r _ _ _ _ _ _ _ ha hx hB e
    · rw [if_neg h6] at e ⊢
      by_cases hz : it.1 = 0
      · rw [if_pos hz] at e ⊢
        split at e
        · cases e
        · rename_i hl
          rw [if_neg hl]
          exact ev_sayIs hb hs r _ _ _ _ _ _ _ ha hx hB e
      · rw [if_neg hz] at e ⊢
        cases hw : want it.1 it.2.1 z with
        | none =>
          rw [hw] at e
          exact ev_sayIs hb hs r _ _ _ _ _ _ _ ha hx hB e
        | some q0 =>
          rw [hw] at e
          dsimp only at e ⊢
          cases hq : ask0 q0 with
          | none => rw [hq] at e; cases e
          | some y =>
            obtain ⟨p, b, kk⟩ := y
            rw [hq] at e
            dsimp only at e
            have hb0 := hb _ _ hq
            dsimp only at hb0
            have key : a0 + 1 + b ≤ x.2.1 ∧ kk + 1 ≤ x.2.2 := by
              split at e
              · have := evIs_ge hb r _ _ _ _ _ e; exact ⟨this.1, by have := this.2.1; omega⟩
              · split at e
                · cases e
                · have := evIs_ge hb r _ _ _ _ _ e; exact ⟨this.1, by have := this.2.1; omega⟩
            rw [hs (a + 1) q0 (p, b, kk) (by omega) hq (by dsimp only; omega) (by dsimp only; omega)]
            dsimp only
            have e3 : a + (x.2.1 - a0) = a + 1 + b + (x.2.1 - (a0 + 1 + b)) := by omega
            split at e
            · rename_i hp
              rw [if_pos hp, e3]
              exact ev_sayIs hb hs r _ _ _ _ _ _ _ (by omega) hx (by omega) e
            · rename_i hp
              rw [if_neg hp]
              split at e
              · cases e
              · rename_i hl
                rw [if_neg hl, e3]
                exact ev_sayIs hb hs r _ _ _ _ _ _ _ (by omega) hx (by omega) e
theorem ev_say {rs : List Rl} : ∀ (f : Nat) (z : Int) (x : EV), ev rs f z = some x → ∀ (g : Nat) (op : List Int) (b : Int), x.2.2 ≤ g → 0 ≤ b → b + x.2.1 ≤ 1000 → (∀ m ∈ op, ∀ f' y, ev rs f' m = some y → x.2.2 < y.2.2) → say rs g op b z = .inl (x.1, b + x.2.1)
  | 0, z, x, h, _, _, _, _, _, _, _ => nomatch h
  | f + 1, z, x, h, g, op, b, hg, h0, hb, hop => by
    have hp := ev_pos _ _ _ h
    obtain ⟨h1, h2, k, ρ, h3, h4, h5⟩ := ev_in h
    match g, hg with
    | 0, hg => omega
    | g + 1, hg =>
      unfold say
      rw [if_neg (by omega), if_neg (fun hm => Nat.lt_irrefl _ (hop z hm _ _ h)), if_neg (by omega), h3]
      dsimp only
      rw [h4]
      dsimp only
      have := ev_sayIs (ask := say rs g (z :: op)) (k := k) (H := x.2.2) (B := 1000) (fun q x hx => (ev_pos f q x hx).1) (fun a q y ha hy hle hB => ev_say f q y hy g (z :: op) a (by omega) ha hB (fun m hm f' y' hy' => by
        rcases List.mem_cons.mp hm with rfl | hm
        · have := ev_det hy' h; rw [this]; omega
        · have := hop m hm f' y' hy'; omega)) ρ.2.2.2.2 0 [] false b 0 1 x h0 (Nat.le_refl _) (by omega) h5
      rw [this]
      congr 2
      omega
/-- what a number is said as the uppermost one -/
def sd (rs : List Rl) (n : Int) : Option (List Int × Int) := match say rs 30 [] 0 n with
  | .inl x => some x
  | .inr _ => none
def cs (rs : List Rl) (n : Int) : List C4 := match say rs 30 [] 0 n with
  | .inl _ => []
  | .inr l => l
theorem sd_ev {rs : List Rl} {n : Int} {t : List Int} {a : Int} (h : sd rs n = some (t, a)) : ∃ k, ev rs 30 n = some (t, a, k) ∧ 0 ≤ a ∧ a ≤ 1000 := by
  unfold sd at h
  split at h
  · rename_i x hx
    cases h
    obtain ⟨k, h1, h2, h3⟩ := say_ev _ _ _ _ _ _ hx
    rw [Int.sub_zero] at h1
    exact ⟨k, h1, h2, h3⟩
  · cases h
theorem ev_sd {rs : List Rl} {n : Int} {f : Nat} {x : EV} (h : ev rs f n = some x) (h1 : x.2.2 ≤ 30) (h2 : x.2.1 ≤ 1000) : sd rs n = some (x.1, x.2.1) := by
  unfold sd
  rw [ev_say f n x h 30 [] 0 h1 (Int.le_refl _) (by omega) (fun m hm => nomatch hm)]
  dsimp only
  rw [Int.zero_add]
/-- one that is silent as the uppermost one is silent anywhere -/
theorem sd_none {rs : List Rl} {n : Int} (h : sd rs n = none) {g : Nat} (hg : g ≤ 30) (op : List Int) {a : Int} (ha : 0 ≤ a) : ∃ l, say rs g op a n = .inr l := by
  cases e : say rs g op a n with
  | inr l => exact ⟨l, rfl⟩
  | inl x =>
    obtain ⟨k, h1, h2, h3⟩ := say_ev _ _ _ _ _ _ (show say rs g op a n = .inl (x.1, x.2) from e)
    have hp := ev_pos _ _ _ h1
    dsimp only at hp
    rw [ev_sd h1 (by dsimp only; omega) (by dsimp only; omega)] at h
    cases h

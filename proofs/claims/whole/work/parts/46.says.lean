/-! the voice says a number: its items, and again -/
theorem evIs_len {ask : Int → Option EV} {z : Int} : ∀ (its : List It) (t : List Int) (g : Bool) (a : Int) (h : Nat) (x : EV), t.length ≤ 100 → evIs ask z its t g a h = some x → x.1.length ≤ 100
  | [], t, g, a, h, x, ht, e => by cases e; exact ht
  | it :: r, t, g, a, h, x, ht, e => by
    unfold evIs at e
    split at e
    · exact evIs_len r _ _ _ _ _ ht e
    · split at e
      · split at e
        · cases e
        · exact evIs_len r _ _ _ _ _ (by omega) e
      · split at e
        · exact evIs_len r _ _ _ _ _ ht e
        · split at e
          · cases e
          · split at e
            · exact evIs_len r _ _ _ _ _ ht e
            · split at e
              · cases e
              · exact evIs_len r _ _ _ _ _ (by omega) e
theorem ev_len {rs : List Rl} {f : Nat} {z : Int} {x : EV} (h : ev rs f z = some x) : x.1.length ≤ 100 := by
  cases f with
  | zero => cases h
  | succ f =>
    obtain ⟨-, -, k, ρ, -, -, h5⟩ := ev_in h
    exact evIs_len _ _ _ _ _ _ (by decide) h5
def ubit (I : MI) (v k : Nat) : Bool := (I v 4).toBitVec.getLsbD k
def okP : SR → Option (List Int × Int)
  | .inl x => some x
  | .inr _ => none
/-- a slot of the memo holds nothing, or what is so -/
def mOk (rs : List Rl) (I : MI) (v s : Nat) : Prop := gi I (v + 3) s = -1 ∨ (0 ≤ gi I (v + 3) s ∧ gi I (v + 3) s ≤ 999999999 ∧ sl (gi I (v + 3) s) = s ∧ ((gi I (v + 4) s = -1 ∧ sd rs (gi I (v + 3) s) = none) ∨ ∃ x : EV, ev rs 30 (gi I (v + 3) s) = some x ∧ x.2.1 ≤ 1000 ∧ I (v + 4) s = w x.1.length ∧ I (v + 5) s = w x.2.1 ∧ I (v + 6) s = w x.2.2 ∧ Txt (I (v + 2)) (s * 100) x.1))
def MInv (rs : List Rl) (I : MI) (v : Nat) : Prop := ∀ s, s < 1152 → mOk rs I v s
/-- a rule that was not used is not needed for what the memo holds -/
def UInv (rs : List Rl) (I : MI) (v : Nat) : Prop := ∀ k, k < rs.length → ubit I v k = false → ∀ s, s < 1152 → 0 ≤ gi I (v + 3) s → (gi I (v + 4) s = -1 → sd (rs.eraseIdx k) (gi I (v + 3) s) = none) ∧ (gi I (v + 4) s ≠ -1 → ev (rs.eraseIdx k) 30 (gi I (v + 3) s) = ev rs 30 (gi I (v + 3) s))
theorem gi_congr {I I' : MI} {a : Nat} (h : I' a = I a) (j : Nat) : gi I' a j = gi I a j := by unfold gi; rw [h]
theorem gi_congr2 {I I' : MI} {a j : Nat} (h : I' a j = I a j) : gi I' a j = gi I a j := by unfold gi; rw [h]
theorem MInv.congr {rs : List Rl} {I I' : MI} {v : Nat} (h : MInv rs I v) (e2 : I' (v + 2) = I (v + 2)) (e3 : I' (v + 3) = I (v + 3)) (e4 : I' (v + 4) = I (v + 4)) (e5 : I' (v + 5) = I (v + 5)) (e6 : I' (v + 6) = I (v + 6)) : MInv rs I' v := by
  intro s hs
  unfold mOk
  rw [gi_congr e3, gi_congr e4, e2, e4, e5, e6]
  exact h s hs
theorem UInv.congr {rs : List Rl} {I I' : MI} {v : Nat} (h : UInv rs I v) (hb : ∀ k, ubit I v k = true → ubit I' v k = true) (e3 : I' (v + 3) = I (v + 3)) (e4 : I' (v + 4) = I (v + 4)) : UInv rs I' v := by
  intro k hk hu s hs
  rw [gi_congr e3, gi_congr e4]
  refine h k hk ?_ s hs
  cases e : ubit I v k with
  | false => rfl
  | true => rw [hb k e] at hu; cases hu
/-- none that is being said is in the way of this number -/
def chn (rs : List Rl) (op : List Int) (n : Int) : Prop := ∀ m ∈ op, ∀ f x, ev rs f m = some x → ∃ g y, ev rs g n = some y ∧ y.2.2 < x.2.2
theorem chn_ask {rs : List Rl} {op : List Int} {n q : Int} {k : Nat} {ρ : Rl} {it : It} (h : chn rs op n) (h1 : ff rs n = some k) (h2 : rs[k]? = some ρ) (h3 : it ∈ ρ.2.2.2.2) (h4 : asks it n q) : chn rs (n :: op) q := by
  intro m hm f x hx
  rcases List.mem_cons.mp hm with rfl | hm
  · exact ev_ask hx h1 h2 h3 h4
  · obtain ⟨g, y, hy, hlt⟩ := h m hm f x hx
    obtain ⟨g', y', hy', hlt'⟩ := ev_ask hy h1 h2 h3 h4
    exact ⟨g', y', hy', by omega⟩
theorem fi_erase {p : Rl → Bool} : ∀ (rs : List Rl) (k k' : Nat), rs.findIdx? p = some k' → k ≠ k' → ∃ j, (rs.eraseIdx k).findIdx? p = some j ∧ (rs.eraseIdx k)[j]? = rs[k']?
  | [], _, _, h, _ => by cases h
  | x :: xs, k, k', h, hk => by
    rw [List.findIdx?_cons] at h
    split at h
    · rename_i hp
      cases h
      match k, hk with
      | k + 1, _ =>
        refine ⟨0, ?_, rfl⟩
        rw [List.eraseIdx_cons_succ, List.findIdx?_cons, if_pos hp]
    · rename_i hp
      cases hx : xs.findIdx? p with
      | none => rw [hx] at h; cases h
      | some m =>
        rw [hx] at h
        cases h
        match k, hk with
        | 0, _ => exact ⟨m, hx, rfl⟩
        | k + 1, hk =>
          obtain ⟨j, h1, h2⟩ := fi_erase xs k m hx (fun e => hk (by rw [e]))
          refine ⟨j + 1, ?_, h2⟩
          rw [List.eraseIdx_cons_succ, List.findIdx?_cons, if_neg hp, h1]
          rfl
theorem fi_erase_none {p : Rl → Bool} : ∀ (rs : List Rl) (k : Nat), rs.findIdx? p = none → (rs.eraseIdx k).findIdx? p = none
  | [], _, _ => rfl
  | x :: xs, k, h => by
    rw [List.findIdx?_cons] at h
    split at h
    · cases h
    · rename_i hp
      have hx : xs.findIdx? p = none := by
        cases hx : xs.findIdx? p with
        | none => rfl
        | some m => rw [hx] at h; cases h
      match k with
      | 0 => exact hx
      | k + 1 => rw [List.eraseIdx_cons_succ, List.findIdx?_cons, if_neg hp, fi_erase_none xs k hx]; rfl
/-- what a voice's call leaves as it was -/
def vpost (rs : List Rl) (I I' : MI) (v dep : Nat) : Prop :=
  (∀ a, (a < v ∨ v + 17 ≤ a) → I' a = I a) ∧ I' v 3 = I v 3 ∧ I' v 10 = I v 10 ∧ MInv rs I' v ∧ UInv rs I' v ∧
  (∀ i, i < dep → I' (v + 13) i = I (v + 13) i ∧ I' (v + 15) i = I (v + 15) i ∧ I' (v + 16) i = I (v + 16) i) ∧ (∀ j, j < dep * 100 → I' (v + 14) j = I (v + 14) j) ∧
  (∀ s : Nat, s ≤ 1000 → gi I (v + 3) s = s → gi I' (v + 3) s = s) ∧ (∀ k, ubit I v k = true → ubit I' v k = true)
theorem vpost.trans {rs : List Rl} {I I1 I2 : MI} {v dep dep' : Nat} (h : vpost rs I I1 v dep) (h' : vpost rs I1 I2 v dep') (hd : dep ≤ dep') : vpost rs I I2 v dep := by
  obtain ⟨a1, a2, a3, a4, a5, a6, a7, a8, a9⟩ := h
  obtain ⟨b1, b2, b3, b4, b5, b6, b7, b8, b9⟩ := h'
  refine ⟨fun a ha => (b1 a ha).trans (a1 a ha), b2.trans a2, b3.trans a3, b4, b5, fun i hi => ?_, fun j hj => (b7 j (by omega)).trans (a7 j hj), fun s hs h => b8 s hs (a8 s hs h), fun k h => b9 k (a9 k h)⟩
  obtain ⟨c1, c2, c3⟩ := a6 i hi
  obtain ⟨d1, d2, d3⟩ := b6 i (by omega)
  exact ⟨d1.trans c1, d2.trans c2, d3.trans c3⟩
theorem vpost.refl {rs : List Rl} {I : MI} {v dep : Nat} (hM : MInv rs I v) (hU : UInv rs I v) : vpost rs I I v dep :=
  ⟨fun _ _ => rfl, rfl, rfl, hM, hU, fun _ _ => ⟨rfl, rfl, rfl⟩, fun _ _ => rfl, fun _ _ h => h, fun _ h => h⟩
theorem vpost.tail {rs : List Rl} {I I1 I2 : MI} {v dep : Nat} (h : vpost rs I I1 v dep) (e : ∀ a, (a < v + 7 ∨ v + 11 < a) → I2 a = I1 a) : vpost rs I I2 v dep := by
  obtain ⟨a1, a2, a3, a4, a5, a6, a7, a8, a9⟩ := h
  have e0 := e v (by omega)
  refine ⟨fun a ha => (e a (by omega)).trans (a1 a ha), by rw [e0]; exact a2, by rw [e0]; exact a3, a4.congr (e _ (by omega)) (e _ (by omega)) (e _ (by omega)) (e _ (by omega)) (e _ (by omega)), a5.congr (fun k h => by unfold ubit at h ⊢; rw [e0]; exact h) (e _ (by omega)) (e _ (by omega)), ?_, ?_, ?_, ?_⟩
  · rw [e (v + 13) (by omega), e (v + 15) (by omega), e (v + 16) (by omega)]; exact a6
  · rw [e (v + 14) (by omega)]; exact a7
  · intro s hs h; rw [gi_congr (e (v + 3) (by omega))]; exact a8 s hs h
  · intro k h; unfold ubit; rw [e0]; exact a9 k h
theorem vpost.add {rs : List Rl} {I I1 I2 : MI} {v dep : Nat} (h : vpost rs I I1 v dep) (e : ∀ a, a ≠ v + 14 → a ≠ v + 15 → a ≠ v + 16 → I2 a = I1 a) (e2 : ∀ i, i ≠ dep → I2 (v + 15) i = I1 (v + 15) i ∧ I2 (v + 16) i = I1 (v + 16) i) (e3 : ∀ j, j < dep * 100 → I2 (v + 14) j = I1 (v + 14) j) : vpost rs I I2 v dep := by
  obtain ⟨a1, a2, a3, a4, a5, a6, a7, a8, a9⟩ := h
  have e0 := e v (by omega) (by omega) (by omega)
  refine ⟨fun a ha => (e a (by omega) (by omega) (by omega)).trans (a1 a ha), by rw [e0]; exact a2, by rw [e0]; exact a3, a4.congr (e _ (by omega) (by omega) (by omega)) (e _ (by omega) (by omega) (by omega)) (e _ (by omega) (by omega) (by omega)) (e _ (by omega) (by omega) (by omega)) (e _ (by omega) (by omega) (by omega)), a5.congr (fun k h => by unfold ubit at h ⊢; rw [e0]; exact h) (e _ (by omega) (by omega) (by omega)) (e _ (by omega) (by omega) (by omega)), ?_, ?_, ?_, ?_⟩
  · intro i hi
    rw [e (v + 13) (by omega) (by omega) (by omega), (e2 i (by omega)).1, (e2 i (by omega)).2]; exact a6 i hi
  · intro j hj; rw [e3 j hj]; exact a7 j hj
  · intro s hs h; rw [gi_congr (e (v + 3) (by omega) (by omega) (by omega))]; exact a8 s hs h
  · intro k h; unfold ubit; rw [e0]; exact a9 k h
theorem RuleAt.congr {S : SH} {I I' : MI} {L : ML} {r : Nat} {ρ : Rl} (h : RuleAt S I L r ρ) (e0 : I' r = I r) (e1 : I' (r + 1) = I (r + 1)) (e2 : I' (r + 2) = I (r + 2)) : RuleAt S I' L r ρ := by
  unfold RuleAt at h ⊢
  rw [e0, e1, e2]
  exact h
theorem RsAt.congr {S : SH} {I I' : MI} {L : ML} {R : MR} {v : Nat} {rs : List Rl} (h : RsAt S I L R v rs) (e : ∀ a, (a < v ∨ v + 17 ≤ a) → I' a = I a) (e3 : I' v 3 = I v 3) : RsAt S I' L R v rs := by
  refine ⟨e3.trans h.1, h.2.1, fun i hi => ?_⟩
  obtain ⟨r, h1, h2, h3⟩ := h.2.2 i hi
  exact ⟨r, h1, h2, h3.congr (e _ (by omega)) (e _ (by omega)) (e _ (by omega))⟩
def c0 : C4 := (0, 0, 0, 0)
/-- how a saying comes back: said, with what was asked for so far; or not, with its causes where they are wanted -/
def back (I I' : MI) (v dep : Nat) (r : SR) (o : Int32) (ok : List Int → Prop) : Prop := match r with
  | .inl (t, b) => o = w 1 ∧ gi I' v 9 = b ∧ ok t
  | .inr l => o = w 0 ∧ (I v 10 = w 1 → gi I' (v + 7) 4 = dep + l.length ∧ ∀ i, i < l.length → crow I' (v + 7) (dep + i) = l.getD i c0)
def agr (rs : List Rl) (I' : MI) (v : Nat) (r : SR) (say' : List Rl → SR) : Prop := ∀ k, k < rs.length → ubit I' v k = false → okP (say' (rs.eraseIdx k)) = okP r
def SpkP (S : SH) (L : ML) (R : MR) (G : MG) (v : Nat) (rs : List Rl) (f : Nat) : Prop := ∀ (e : Nat) (I : MI) (dep : Nat) (n : Int) (Q : XO → Hp → Prop), 2 * f ≤ e → f + dep = 30 → RsAt S I L R v rs → MInv rs I v → UInv rs I v → (I v 10 = w 0 ∨ I v 10 = w 1) → 0 ≤ gi I v 9 → gi I v 9 ≤ 1000 → (dep = 0 → gi I v 9 = 0) → -2147483648 ≤ n → n < 2147483648 →
  chn rs (opl I v dep) n → (∀ k, k < rs.length → ubit I v k = false → chn (rs.eraseIdx k) (opl I v dep) n) →
  (∀ (o : Int32) (I' : MI), vpost rs I I' v dep → back I I' v dep (say rs f (opl I v dep) (gi I v 9 + if dep = 0 then 0 else 1) n) o (fun _ => 0 ≤ n ∧ n ≤ 999999999 ∧ gi I' (v + 3) (sl n) = n ∧ gi I' (v + 4) (sl n) ≠ -1) → agr rs I' v (say rs f (opl I v dep) (gi I v 9 + if dep = 0 then 0 else 1) n) (fun rs' => say rs' f (opl I v dep) (gi I v 9 + if dep = 0 then 0 else 1) n) → Q (.inl (some (.int o))) (mk S I' L R G)) →
  XC (e + 6) 89 [.ref v, .int (w n), .int (w dep)] (mk S I L R G) Q

/-! a heap's cells, read off; a heap is of known form -/
def esh : CE → (Nat × Nat) ⊕ Nat
  | .inl (t, n, _) => .inl (t, n)
  | .inr (c, _) => .inr c
def eI : CE → Nat → Int32
  | .inl (_, _, .inl f) => f
  | .inl _ => fun _ => 0
  | .inr (_, fs) => fun j => match fs.getD j .null with | .int v => v | _ => 0
def eL : CE → Nat → Int64
  | .inl (_, _, .inr (.inl f)) => f
  | _ => fun _ => 0
def eR : CE → Nat → Option Nat
  | .inl (_, _, .inr (.inr (.inr (.inr f)))) => f
  | .inl _ => fun _ => none
  | .inr (_, fs) => fun j => match fs.getD j .null with | .ref r => some r | _ => none
def shp (A : Hp) : SH := fun x => (A.1 x).map esh
def cI (A : Hp) : MI := fun x => match A.1 x with | some e => eI e | none => fun _ => 0
def cL (A : Hp) : ML := fun x => match A.1 x with | some e => eL e | none => fun _ => 0
def cR (A : Hp) : MR := fun x => match A.1 x with | some e => eR e | none => fun _ => none
def KF (x : Nat) (e : CE) : Prop := k_cell (some (esh e)) (fun _ => eI e) (fun _ => eL e) (fun _ => eR e) x = some e
theorem mk_of {A : Hp} (h : ∀ x e, A.1 x = some e → KF x e) : A = mk (shp A) (cI A) (cL A) (cR A) A.2 := by
  refine Prod.ext (funext fun x => ?_) rfl
  show A.1 x = k_cell ((A.1 x).map esh) (cI A) (cL A) (cR A) x
  cases he : A.1 x with
  | none => rfl
  | some e =>
    have e1 : cI A x = eI e := by unfold cI; rw [he]
    have e2 : cL A x = eL e := by unfold cL; rw [he]
    have e3 : cR A x = eR e := by unfold cR; rw [he]
    have hk : k_cell (some (esh e)) (fun _ => eI e) (fun _ => eL e) (fun _ => eR e) x = some e := h x e he
    refine hk.symm.trans ?_
    show k_cell (some (esh e)) (fun _ => eI e) (fun _ => eL e) (fun _ => eR e) x = k_cell (some (esh e)) (cI A) (cL A) (cR A) x
    unfold k_cell
    split
    · rfl
    · rw [e1, e2, e3]
    · unfold k_obj
      rw [e1, e3]
section
variable {F : Hp} {x a : Nat} {e : CE} {xs ys : List CE}
theorem fS (h : F.1 x = some e) : shp F x = some (esh e) := by unfold shp; rw [h]; rfl
theorem fI (h : F.1 x = some e) : cI F x = eI e := by unfold cI; rw [h]
theorem fR (h : F.1 x = some e) : cR F x = eR e := by unfold cR; rw [h]
/-- the cells stand there, one behind another -/
def Has (F : Hp) : Nat → List CE → Prop
  | _, [] => True
  | a, x :: xs => F.1 a = some x ∧ Has F (a + 1) xs
def KFl : Nat → List CE → Prop
  | _, [] => True
  | a, x :: xs => KF a x ∧ KFl (a + 1) xs
theorem Has_nil : Has F a [] ↔ True := Iff.rfl
theorem Has_cons {y : CE} : Has F a (y :: xs) ↔ F.1 a = some y ∧ Has F (a + 1) xs := Iff.rfl
theorem KFl_nil : KFl a [] ↔ True := Iff.rfl
theorem KFl_cons {y : CE} : KFl a (y :: xs) ↔ KF a y ∧ KFl (a + 1) xs := Iff.rfl
theorem Has_app : ∀ {xs : List CE} {a : Nat}, Has F a (xs ++ ys) ↔ Has F a xs ∧ Has F (a + xs.length) ys
  | [], a => by show Has F a ys ↔ True ∧ Has F (a + 0) ys; simp
  | y :: xs, a => by
    show F.1 a = some y ∧ Has F (a + 1) (xs ++ ys) ↔ (F.1 a = some y ∧ Has F (a + 1) xs) ∧ Has F (a + (xs.length + 1)) ys
    rw [Has_app (xs := xs) (a := a + 1), and_assoc, show a + 1 + xs.length = a + (xs.length + 1) by omega]
theorem KFl_app : ∀ {xs : List CE} {a : Nat}, KFl a (xs ++ ys) ↔ KFl a xs ∧ KFl (a + xs.length) ys
  | [], a => by show KFl a ys ↔ True ∧ KFl (a + 0) ys; simp
  | y :: xs, a => by
    show KF a y ∧ KFl (a + 1) (xs ++ ys) ↔ (KF a y ∧ KFl (a + 1) xs) ∧ KFl (a + (xs.length + 1)) ys
    rw [KFl_app (xs := xs) (a := a + 1), and_assoc, show a + 1 + xs.length = a + (xs.length + 1) by omega]
theorem Has_fl {g : Nat → List CE} {k : Nat} (hl : ∀ i, (g i).length = k) : ∀ {n : Nat}, Has F a (fl g n) → ∀ i, i < n → Has F (a + i * k) (g i)
  | 0, _, i, hi => absurd hi (Nat.not_lt_zero _)
  | n + 1, h, i, hi => by
    have h' : Has F a (fl g n ++ g n) := h
    rw [Has_app, l_fl hl] at h'
    rcases Nat.lt_or_ge i n with c | c
    · exact Has_fl hl h'.1 i c
    · have : i = n := by omega
      subst this
      exact h'.2
theorem KFl_fl {g : Nat → List CE} {k : Nat} (hl : ∀ i, (g i).length = k) : ∀ {n : Nat}, (∀ i, i < n → KFl (a + i * k) (g i)) → KFl a (fl g n)
  | 0, _ => trivial
  | n + 1, h => by
    show KFl a (fl g n ++ g n)
    rw [KFl_app, l_fl hl]
    exact ⟨KFl_fl hl fun i hi => h i (by omega), h n (by omega)⟩
theorem Has_at : ∀ {xs : List CE} {a j : Nat} {e : CE}, KFl a xs → xs[j]? = some e → KF (a + j) e
  | [], _, _, _, _, h => by simp at h
  | y :: xs, a, 0, e, hk, h => by cases h; exact hk.1
  | y :: xs, a, j + 1, e, hk, h => by
    have := Has_at (xs := xs) (a := a + 1) (j := j) hk.2 h
    rwa [show a + (j + 1) = a + 1 + j by omega]
theorem Has_of : ∀ {xs : List CE} {a : Nat}, (∀ j e, xs[j]? = some e → F.1 (a + j) = some e) → Has F a xs
  | [], _, _ => trivial
  | y :: xs, a, h => ⟨h 0 y rfl, Has_of fun j e hj => by have := h (j + 1) e hj; rwa [show a + (j + 1) = a + 1 + j by omega] at this⟩
theorem KF_arr {t n : Nat} (ht : t < 11) : KF x (x_arr0 t n) := by
  have : t = 0 ∨ t = 1 ∨ t = 2 ∨ t = 3 ∨ (4 ≤ t ∧ t < 11) := by omega
  rcases this with rfl | rfl | rfl | rfl | ⟨h1, h2⟩
  · rfl
  · rfl
  · rfl
  · rfl
  · have e : x_arr0 t n = .inl (t, n, .inr (.inr (.inr (.inr (fun _ => none))))) := by unfold x_arr0; rw [if_neg (by omega), if_pos h1]
    rw [e]
    show k_cell (some (.inl (t, n))) _ _ _ _ = _
    unfold k_cell
    show some (Sum.inl (t, n, if t = 1 then _ else if 4 ≤ t ∧ t < 11 then _ else _)) = _
    rw [if_neg (by omega), if_pos ⟨h1, h2⟩]
    rfl
theorem KF_rf {t n : Nat} {f : Nat → Option Nat} (h1 : 4 ≤ t) (h2 : t < 11) : KF x (.inl (t, n, .inr (.inr (.inr (.inr f))))) := by
  show k_cell (some (.inl (t, n))) _ _ _ _ = _
  unfold k_cell
  show some (Sum.inl (t, n, if t = 1 then _ else if 4 ≤ t ∧ t < 11 then _ else _)) = _
  rw [if_neg (by omega), if_pos ⟨h1, h2⟩]
  rfl
theorem KF_ia {n : Nat} {f : Nat → Int32} : KF x (.inl (0, n, .inl f)) := rfl
theorem x_subk {t : Nat} : x_sub t < 11 := by unfold x_sub; split <;> (try split) <;> (try split) <;> (try split) <;> omega
/-- how deep an array of arrays of this type may go -/
def mok : List Nat → Nat → Prop
  | [], _ => True
  | [_], t => t < 11
  | _ :: (k :: r), t => 4 ≤ t ∧ t < 11 ∧ mok (k :: r) (x_sub t)
theorem KFl_ml : ∀ (ds : List Nat) (t a b : Nat), mok ds t → KFl a (ml ds t b)
  | [], _, _, _, _ => trivial
  | [n], t, a, b, h => ⟨KF_arr h, trivial⟩
  | n :: (k :: r), t, a, b, ⟨h1, h2, h3⟩ => ⟨KF_rf h1 h2, KFl_fl (fun i => l_ml (k :: r) _ _) fun i _ => KFl_ml (k :: r) (x_sub t) _ _ h3⟩
theorem Has_ml1 {n t : Nat} (h : Has F a (ml [n] t a)) : F.1 a = some (x_arr0 t n) := h.1
theorem Has_mls {n k t : Nat} {r : List Nat} (h : Has F a (ml (n :: k :: r) t a)) : F.1 a = some (.inl (t, n, .inr (.inr (.inr (.inr (fun i => if i < n then some (a + 1 + i * x_msz (k :: r)) else none)))))) ∧ ∀ i, i < n → Has F (a + 1 + i * x_msz (k :: r)) (ml (k :: r) (x_sub t) (a + 1 + i * x_msz (k :: r))) :=
  ⟨h.1, fun i hi => Has_fl (fun i => l_ml (k :: r) _ _) h.2 i hi⟩
theorem Has_bks : ∀ {n : Nat}, Has F a (bks x n) → ∀ i, i < n → Has F (a + 3 * i) (c_0 (x + 2 + 3 * i))
  | 0, _, i, hi => absurd hi (Nat.not_lt_zero _)
  | n + 1, h, i, hi => by
    have h' : Has F a (bks x n ++ c_0 (x + 2 + 3 * n)) := h
    rw [Has_app, l_bks] at h'
    rcases Nat.lt_or_ge i n with c | c
    · exact Has_bks h'.1 i c
    · have : i = n := by omega
      subst this
      exact h'.2
theorem KFl_bks : ∀ {n : Nat}, KFl (a + 2) (bks a n)
  | 0 => trivial
  | n + 1 => by
    show KFl (a + 2) (bks a n ++ c_0 (a + 2 + 3 * n))
    rw [KFl_app, l_bks]
    exact ⟨KFl_bks, ⟨rfl, KF_arr (by decide), KF_arr (by decide), trivial⟩⟩
end

/-! both sides at once -/
def LFr (S : SH) (I : MI) (G : MG) (c : Nat) (S' : SH) (I' : MI) (G' : MG) (k : Nat) : Prop := (∀ a, a < c → S' a = S a ∧ I' a = I a) ∧ G.1 ≤ G'.1 ∧ G'.1 ≤ G.1 + 121 * k ∧ G.2.1 ≤ G'.2.1 ∧ G'.2.1 ≤ G.2.1 + 756 * k
def LB (S : SH) (I : MI) (L : ML) (R : MR) (G : MG) (c : Nat) (s1 s2 : St) : Prop := CR S I L R G c (c + 6800) s1 ∧ MS S I R G (c + 121) s2 ∧ S (c + 6799) = some (.inl (1, 1)) ∧ Strs S I G c ∧ StrM S I G c
theorem StrAt.sh {S S' : SH} {I I' : MI} {z : Nat} {s : List Int} (h : StrAt S I z s) (e : S' z = S z) (e2 : I' z = I z) : StrAt S' I' z s := ⟨by rw [e]; exact h.1, by rw [e2]; exact h.2.1, h.2.2⟩
theorem Strs.sh {S S' : SH} {I I' : MI} {G G' : MG} {lo : Nat} (h : Strs S I G lo) (eG : G'.2.2 = G.2.2) (e : ∀ a, a < lo → S' a = S a ∧ I' a = I a) : Strs S' I' G' lo := by
  obtain ⟨⟨a1, a2⟩, ⟨b1, b2⟩, ⟨c1, c2⟩, ⟨d1, d2⟩, ⟨e1, e2⟩⟩ := h
  unfold Strs
  rw [eG]
  exact ⟨⟨a1.sh (e _ a2).1 (e _ a2).2, a2⟩, ⟨b1.sh (e _ b2).1 (e _ b2).2, b2⟩, ⟨c1.sh (e _ c2).1 (e _ c2).2, c2⟩, ⟨d1.sh (e _ d2).1 (e _ d2).2, d2⟩, ⟨e1.sh (e _ e2).1 (e _ e2).2, e2⟩⟩
theorem StrM.sh {S S' : SH} {I I' : MI} {G G' : MG} {lo : Nat} (h : StrM S I G lo) (eG : G'.2.2 = G.2.2) (e : ∀ a, a < lo → S' a = S a ∧ I' a = I a) : StrM S' I' G' lo := by
  obtain ⟨⟨a1, a2⟩, ⟨b1, b2⟩, ⟨c1, c2⟩, ⟨d1, d2⟩, ⟨e1, e2⟩⟩ := h
  unfold StrM
  rw [eG]
  exact ⟨⟨a1.sh (e _ a2).1 (e _ a2).2, a2⟩, ⟨b1.sh (e _ b2).1 (e _ b2).2, b2⟩, ⟨c1.sh (e _ c2).1 (e _ c2).2, c2⟩, ⟨d1.sh (e _ d2).1 (e _ d2).2, d2⟩, ⟨e1.sh (e _ e2).1 (e _ e2).2, e2⟩⟩
theorem Strs.up {S : SH} {I : MI} {G : MG} {a b : Nat} (h : Strs S I G a) (hab : a ≤ b) : Strs S I G b := by
  obtain ⟨⟨a1, a2⟩, ⟨b1, b2⟩, ⟨c1, c2⟩, ⟨d1, d2⟩, ⟨e1, e2⟩⟩ := h
  exact ⟨⟨a1, by omega⟩, ⟨b1, by omega⟩, ⟨c1, by omega⟩, ⟨d1, by omega⟩, ⟨e1, by omega⟩⟩
theorem StrM.up {S : SH} {I : MI} {G : MG} {a b : Nat} (h : StrM S I G a) (hab : a ≤ b) : StrM S I G b := by
  obtain ⟨⟨a1, a2⟩, ⟨b1, b2⟩, ⟨c1, c2⟩, ⟨d1, d2⟩, ⟨e1, e2⟩⟩ := h
  exact ⟨⟨a1, by omega⟩, ⟨b1, by omega⟩, ⟨c1, by omega⟩, ⟨d1, by omega⟩, ⟨e1, by omega⟩⟩
theorem MLay.sh {S S' : SH} {R R' : MR} {m : Nat} (h : MLay S R m) (eS : ∀ a, m ≤ a → a < m + 6678 → S' a = S a) (eR : ∀ a, m ≤ a → a < m + 6678 → R' a = R a) : MLay S' R' m := by
  obtain ⟨h1, h2, h3, h4, h5, ⟨r1, r2⟩, ⟨w1, w2⟩, ⟨s1, s2, s3, s4⟩, ⟨l1, l2, l3, l4, l5, l6, l7, l8⟩, ⟨x1, x2, x3, x4, x5, x6, x7, x8, x9⟩, ⟨y1, y2, y3, y4, y5⟩⟩ := h
  have e : ∀ a v, S a = v → m ≤ a → a < m + 6678 → S' a = v := fun a v h h1 h2 => (eS a h1 h2).trans h
  have f : ∀ a i v, R a i = v → m ≤ a → a < m + 6678 → R' a i = v := fun a i v h h1 h2 => by rw [eR a h1 h2]; exact h
  refine ⟨e _ _ h1 (by omega) (by omega), e _ _ h2 (by omega) (by omega), e _ _ h3 (by omega) (by omega), e _ _ h4 (by omega) (by omega), e _ _ h5 (by omega) (by omega), ⟨e _ _ r1 (by omega) (by omega), fun s hs => ?_⟩, ⟨e _ _ w1 (by omega) (by omega), fun s hs => ?_⟩, ⟨e _ _ s1 (by omega) (by omega), e _ _ s2 (by omega) (by omega), e _ _ s3 (by omega) (by omega), fun i hi => ⟨f _ _ _ (s4 i hi).1 (by omega) (by omega), e _ _ (s4 i hi).2 (by omega) (by omega)⟩⟩, ⟨e _ _ l1 (by omega) (by omega), e _ _ l2 (by omega) (by omega), e _ _ l3 (by omega) (by omega), e _ _ l4 (by omega) (by omega), e _ _ l5 (by omega) (by omega), e _ _ l6 (by omega) (by omega), e _ _ l7 (by omega) (by omega), e _ _ l8 (by omega) (by omega)⟩, ⟨e _ _ x1 (by omega) (by omega), e _ _ x2 (by omega) (by omega), e _ _ x3 (by omega) (by omega), e _ _ x4 (by omega) (by omega), e _ _ x5 (by omega) (by omega), fun i hi => ?_, e _ _ x7 (by omega) (by omega), e _ _ x8 (by omega) (by omega), e _ _ x9 (by omega) (by omega)⟩, ⟨e _ _ y1 (by omega) (by omega), e _ _ y2 (by omega) (by omega), e _ _ y3 (by omega) (by omega), e _ _ y4 (by omega) (by omega), e _ _ y5 (by omega) (by omega)⟩⟩
  · obtain ⟨a1, a2, a3⟩ := r2 s hs
    exact ⟨f _ _ _ a1 (by omega) (by omega), e _ _ a2 (by omega) (by omega), fun k hk => ⟨f _ _ _ (a3 k hk).1 (by omega) (by omega), e _ _ (a3 k hk).2 (by omega) (by omega)⟩⟩
  · obtain ⟨a1, a2, a3⟩ := w2 s hs
    refine ⟨f _ _ _ a1 (by omega) (by omega), e _ _ a2 (by omega) (by omega), fun k hk => ?_⟩
    obtain ⟨b1, b2, b3⟩ := a3 k hk
    exact ⟨f _ _ _ b1 (by omega) (by omega), e _ _ b2 (by omega) (by omega), fun i hi => ⟨f _ _ _ (b3 i hi).1 (by omega) (by omega), e _ _ (b3 i hi).2 (by omega) (by omega)⟩⟩
  · obtain ⟨a1, a2, a3, a4⟩ := x6 i hi
    exact ⟨f _ _ _ a1 (by omega) (by omega), e _ _ a2 (by omega) (by omega), f _ _ _ a3 (by omega) (by omega), e _ _ a4 (by omega) (by omega)⟩
theorem MS.sh {S S' : SH} {I I' : MI} {R R' : MR} {G G' : MG} {m : Nat} {s : St} (h : MS S I R G m s) (hG : G.1 ≤ G'.1) (eS : ∀ a, m ≤ a → a < m + 6678 → S' a = S a) (eI : ∀ a, m ≤ a → a < m + 6678 → I' a = I a) (eR : ∀ a, m ≤ a → a < m + 6678 → R' a = R a) : MS S' I' R' G' m s := by
  obtain ⟨a1, a2, a3, a4, a5, a6, a7, a8, a9⟩ := h
  have em : I' m = I m := eI m (by omega) (by omega)
  refine ⟨a1.sh eS eR, by omega, by rw [eI (m + 1) (by omega) (by omega)]; exact a3, by rw [eI (m + 2) (by omega) (by omega), em]; exact a4, by rw [em]; exact a5, by rw [em]; exact a6, fun l hl => (a7 l hl).congr (by omega) (fun a b1 b2 => eI a (by omega) (by omega)), a8.keep (by rw [em]) (fun a b0 b1 b2 => eI a (by omega) (by omega)), a9.keep (by rw [em]) (eI _ (by omega) (by omega)) (eI _ (by omega) (by omega)) (eI _ (by omega) (by omega))⟩
section
variable {S S' : SH} {I I' : MI} {L L' : ML} {R R' : MR} {G G' : MG} {c : Nat} {s1 s2 s' : St}
/-- a call of the class -/
theorem LB.cls (h : LB S I L R G c s1 s2) (hC : CR S' I' L' R' G' c (c + 6800) s') (hF : CFr S I L R G c S' I' L' R' G') : LB S' I' L' R' G' c s' s2 ∧ LFr S I G c S' I' G' 1 := by
  obtain ⟨h1, h2, h3, h4, h5⟩ := h
  obtain ⟨f1, f2, f3, f4, f5, f6, f7⟩ := hF
  have hG : c + 6800 ≤ G.1 := h1.2.2.1
  have el : ∀ a, a < c → S' a = S a ∧ I' a = I a := fun a ha => ⟨f1 a (by omega), (f2 a (by omega) (Or.inl ha)).1⟩
  refine ⟨⟨hC, h2.sh f3 (fun a a1 a2 => f1 a (by omega)) (fun a a1 a2 => (f2 a (by omega) (Or.inr a1)).1) (fun a a1 a2 => (f2 a (by omega) (Or.inr a1)).2.2), by rw [f1 _ (by omega)]; exact h3, h4.sh f7 el, h5.sh f7 el⟩, el, f3, by omega, f5, by omega⟩
/-- what is not the class's own changes -/
theorem CR.far (h : CR S I L R G c (c + 6800) s1) (e : ∀ a, (a < c + 121 ∨ c + 6800 ≤ a) → I' a = I a ∧ L' a = L a) : CR S I' L' R G c (c + 6800) s1 := by
  have h2 := h.2.1
  refine h.ask (Nat.le_refl _) (fun a a1 a2 => (e a (Or.inl (by omega))).1) (fun a ha => e a (Or.inr ha)) (fun l hl => ?_) (by rw [(e c (Or.inl (by omega))).1]) (by rw [(e c (Or.inl (by omega))).1]; exact h.2.2.2.2.2.2.2.2.2.2.2.1) (by rw [(e c (Or.inl (by omega))).1]; exact h.2.2.2.2.2.2.2.2.2.2.2.2.1) h.2.2.2.2.2.2.2.2.2.2.2.2.2.1 h.2.2.2.2.2.2.2.2.2.2.2.2.2.2
  have hRk := h.2.2.2.2.2.2.2.1 l hl
  have hRf := h.2.2.2.2.2.2.1
  refine hRk.keep (fun a a1 a2 => (e a (Or.inl (by omega))).1) (fun i hi => rfl) (fun i r hi hr y y1 y2 => ?_)
  have h30 : (s1.2.1.2 l).length ≤ 30 := (h.2.2.2.2.1.2.2.2 l hl).2.1
  have : c + 6800 ≤ r := by
    have hl2 : l = 0 ∨ l = 1 := by omega
    rcases hl2 with rfl | rfl
    · exact (hRf.2.2.1 i (by omega) r hr).1
    · exact (hRf.2.2.2.1 i (by omega) r hr).1
  exact ⟨rfl, e y (Or.inr (by omega))⟩
/-- a call of the model -/
theorem LB.mdl (h : LB S I L R G c s1 s2) (hM : MS S I' R G (c + 121) s') (hF : MFr I L I' L' (c + 121)) : LB S I' L' R G c s1 s' ∧ LFr S I G c S I' G 0 := by
  obtain ⟨h1, h2, h3, h4, h5⟩ := h
  have el : ∀ a, a < c → S a = S a ∧ I' a = I a := fun a ha => ⟨rfl, (hF a (Or.inl (by omega))).1⟩
  exact ⟨⟨h1.far (fun a ha => hF a (by omega)), hM, h3, h4.sh rfl el, h5.sh rfl el⟩, el, Nat.le_refl _, Nat.le_refl _, Nat.le_refl _, Nat.le_refl _⟩
theorem LB.out (h : LB S I L R G c s1 s2) (f : Nat → Int64) : LB S I (wr L (c + 6799) f) R G c s1 s2 := by
  obtain ⟨h1, h2, h3, h4, h5⟩ := h
  exact ⟨h1.far (fun a ha => ⟨rfl, wr_ne (by omega)⟩), h2, h3, h4, h5⟩
theorem LFr.trans {S2 : SH} {I2 : MI} {G2 : MG} {j k : Nat} (h : LFr S I G c S' I' G' j) (h' : LFr S' I' G' c S2 I2 G2 k) : LFr S I G c S2 I2 G2 (j + k) :=
  ⟨fun a ha => ⟨(h'.1 a ha).1.trans (h.1 a ha).1, (h'.1 a ha).2.trans (h.1 a ha).2⟩, by have := h.2.1; have := h'.2.1; omega, by have := h.2.2.1; have := h'.2.2.1; omega, by have := h.2.2.2.1; have := h'.2.2.2.1; omega, by have := h.2.2.2.2; have := h'.2.2.2.2; omega⟩
end

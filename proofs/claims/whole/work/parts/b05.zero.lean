/-! the beginning -/
def s00 : St := ([], (100, fun _ => []), [], -1, 0, 0)
theorem MS.zero {S : SH} {I : MI} {R : MR} {G : MG} {m : Nat} (hL : MLay S R m) (hG : m + 6678 ≤ G.1) (e1 : I (m + 1) 0 = w 0 ∧ I (m + 1) 1 = w 0) (e2 : I m 2 = w 0) (e5 : I m 5 = w (-1)) (e13 : I m 13 = w 100) (e14 : I m 14 = w 0) (e22 : I m 22 = w (-1)) (e3 : ∀ l, l < 2 → I (m + 3) l = w 0) : MS S I R G m s00 :=
  ⟨hL, hG, ⟨e1.1, e1.2, Nat.zero_le _, Nat.zero_le _⟩, ⟨e2, Nat.zero_le _, (fun i hi => nomatch hi), (fun b hb => nomatch hb)⟩, e5, ⟨e13, (by decide), (by decide)⟩, fun l hl => ⟨e3 l hl, Nat.zero_le _, fun k hk => nomatch hk⟩, ⟨e14, Nat.zero_le _, fun j hj => nomatch hj⟩, Or.inl e22⟩
theorem CR.zero {S : SH} {I : MI} {L : ML} {R : MR} {G : MG} {c lo : Nat} (hC : CLay S R c) (hlo : c + 121 ≤ lo) (hG : lo ≤ G.1) (e1 : I (c + 1) 1 = w 0) (e2 : I (c + 3) 2 = w 100) (e3 : ∀ l, l < 2 → I (c + 5) l = w 0) (e4 : I (c + 6) 1 = w 0) (e5 : I (c + 6) 2 = w 0)
    (r1 : ∀ i, i < 60 → R (c + 4) i = none) (r2 : ∀ j, j < 12 → ∀ i, i < 60 → R (c + 8 + 3 * j + 1) i = none) (r3 : ∀ i, i < 30 → R (c + 64) i = none) (r4 : ∀ i, i < 30 → R (c + 84) i = none) (r5 : ∀ i, i < 30 → R (c + 103) i = none)
    (ek : ∀ l, l < 2 → I (c + 51 + 20 * l + 1) 3 = w 0 ∧ I (c + 51 + 20 * l) 4 = w (-1) ∧ ∀ j, j < 1152 → I (c + 51 + 20 * l + 1 + 3) j = w (-1)) (e10 : I c 10 = w (-1)) (e11 : I c 11 = w 0) (e12 : I c 12 = w 0) : CR S I L R G c lo s00 := by
  have nn : ∀ (b n : Nat), (∀ i, i < n → R b i = none) → Ref2 S R G b n lo := fun b n h i hi r hr => by rw [h i hi] at hr; cases hr
  refine ⟨hC, hlo, hG, ⟨⟨e1, fun i hi => nomatch hi⟩, Nat.zero_le _, fun b hb => nomatch hb⟩, ⟨e2, (by decide), (by decide), fun l hl => ⟨e3 l hl, Nat.zero_le _, fun i hi => nomatch hi⟩⟩, ⟨0, by decide, e4, e5, Nat.zero_le _, fun j hj => nomatch hj⟩, ⟨nn _ _ r1, fun j hj => nn _ _ (r2 j hj), nn _ _ r3, nn _ _ r4, nn _ _ r5⟩, fun l hl => ?_, e10, (by decide), (by decide), e11, e12, Nat.zero_le _, Nat.zero_le _⟩
  obtain ⟨k1, k2, k3⟩ := ek l hl
  refine ⟨⟨k1, Nat.zero_le _, fun i hi => nomatch hi⟩, fun q hq => Or.inl ?_, (fun k hk => nomatch hk), Or.inl k2⟩
  unfold gi
  rw [k3 q hq]
  decide

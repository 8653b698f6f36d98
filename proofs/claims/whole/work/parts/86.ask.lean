/-! calls that ask: what is common to them -/
def CFr (S : SH) (I : MI) (L : ML) (R : MR) (G : MG) (c : Nat) (S' : SH) (I' : MI) (L' : ML) (R' : MR) (G' : MG) : Prop := (∀ a, a < G.1 → S' a = S a) ∧ (∀ a, a < G.1 → (a < c ∨ c + 121 ≤ a) → I' a = I a ∧ L' a = L a ∧ R' a = R a) ∧ G.1 ≤ G'.1 ∧ G'.1 ≤ G.1 + 121 ∧ G.2.1 ≤ G'.2.1 ∧ G'.2.1 ≤ G.2.1 + 756 ∧ G'.2.2 = G.2.2
def CK (S : SH) (I : MI) (L : ML) (R : MR) (G : MG) (c lo : Nat) (Q : XO → Hp → Prop) (o : XO) (s' : St) : Prop := ∀ (S' : SH) (I' : MI) (L' : ML) (R' : MR) (G' : MG), CR S' I' L' R' G' c lo s' → CFr S I L R G c S' I' L' R' G' → Q o (mk S' I' L' R' G')
/-- only what is remembered has changed -/
def Rem (S : SH) (I : MI) (L : ML) (R : MR) (c : Nat) (s : St) (I' : MI) (L' : ML) : Prop := (∀ a, (a < c ∨ c + 121 ≤ a) → I' a = I a ∧ L' a = L a) ∧ (∀ a, c ≤ a → a < c + 44 → I' a = I a) ∧ ∀ l, l < 2 → RankIs S I' L' R (c + 51 + 20 * l) (s.2.1.2 l)
section
variable {S : SH} {I I' I2 : MI} {L L' L2 : ML} {R : MR} {G : MG} {c lo : Nat} {s : St} {Q : XO → Hp → Prop} {o : XO}
theorem Rem.refl (h : CR S I L R G c lo s) : Rem S I L R c s I L := ⟨fun _ _ => ⟨rfl, rfl⟩, fun _ _ _ => rfl, h.2.2.2.2.2.2.2.1⟩
theorem Rem.cr (h : CR S I L R G c lo s) (hr : Rem S I L R c s I' L') : CR S I' L' R G c lo s := by
  have h2 := h.2.1
  exact h.ask (Nat.le_refl _) (fun a h1 h2 => hr.2.1 a (by omega) h2) (fun a ha => hr.1 a (by omega)) hr.2.2 (by rw [hr.2.1 c (by omega) (by omega)]) (by rw [hr.2.1 c (by omega) (by omega)]; exact h.2.2.2.2.2.2.2.2.2.2.2.1) (by rw [hr.2.1 c (by omega) (by omega)]; exact h.2.2.2.2.2.2.2.2.2.2.2.2.1) h.2.2.2.2.2.2.2.2.2.2.2.2.2.1 h.2.2.2.2.2.2.2.2.2.2.2.2.2.2
theorem Rem.trans (h1 : Rem S I L R c s I' L') (h2 : Rem S I' L' R c s I2 L2) : Rem S I L R c s I2 L2 := ⟨fun a ha => ⟨(h2.1 a ha).1.trans (h1.1 a ha).1, (h2.1 a ha).2.trans (h1.1 a ha).2⟩, fun a ha hb => (h2.2.1 a ha hb).trans (h1.2.1 a ha hb), h2.2.2⟩
theorem CK.ask (h : CR S I L R G c lo s) (hr : Rem S I L R c s I' L') (hk : CK S I L R G c lo Q o s) : Q o (mk S I' L' R G) :=
  hk S I' L' R G (hr.cr h) ⟨fun _ _ => rfl, fun a _ ha => ⟨(hr.1 a ha).1, (hr.1 a ha).2, rfl⟩, Nat.le_refl _, Nat.le_add_right _ _, Nat.le_refl _, Nat.le_add_right _ _, rfl⟩
theorem CR.ruleFar (h : CR S I L R G c lo s) {l : Nat} (hl : l < 2) : ∀ i r, i < (s.2.1.2 l).length → R (c + 51 + 20 * l + 13) i = some r → c + 121 ≤ r := fun i r hi hr => by
  have h1 := (h.rank hl).2.1.1.2.1
  have h2 := ((h.rank hl).2.2 i (by omega) r hr).1
  have := h.2.1
  omega
theorem CK.mis (h : CR S I L R G c lo s) (hr : Rem S I L R c s I' L') (hm : s.2.2.2.2.1 < 1000000) (hk : CK S I L R G c lo Q (.inr 0) (miss s)) : Q (.inr 0) (mk S (wr I' c (up (I' c) 11 (w (s.2.2.2.2.1 + 1 : Nat)))) L' R (G.1 + 1, G.2.1 + 6, G.2.2)) := by
  have h2 := h.2.1
  have hc := hr.2.1 c (Nat.le_refl _) (by omega)
  refine hk S _ L' R _ (h.ask (ms := s.2.2.2.2.1 + 1) (wg := s.2.2.2.2.2) (Nat.le_succ _) (fun a h1 h2 => by rw [wr_ne (by omega)]; exact hr.2.1 a (by omega) h2) (fun a ha => by rw [wr_ne (by omega)]; exact hr.1 a (by omega)) (fun l hl => (hr.2.2 l hl).keep (fun a h1 h2 => by rw [wr_ne (by omega)]) (fun _ _ => rfl) (fun i r hi hrr y y1 y2 => ⟨rfl, by have := h.ruleFar hl i r hi hrr; rw [wr_ne (by omega)], rfl⟩)) (by rw [wr_same, up_ne (by decide), hc]) (by rw [wr_same, up_same]) (by rw [wr_same, up_ne (by decide), hc]; exact h.2.2.2.2.2.2.2.2.2.2.2.2.1) (by omega) h.2.2.2.2.2.2.2.2.2.2.2.2.2.2) ⟨fun _ _ => rfl, fun a _ ha => ⟨by rw [wr_ne (by omega)]; exact (hr.1 a ha).1, (hr.1 a ha).2, rfl⟩, Nat.le_succ _, by show G.1 + 1 ≤ G.1 + 121; omega, Nat.le_add_right _ _, by show G.2.1 + 6 ≤ G.2.1 + 756; omega, rfl⟩
theorem CK.wro (h : CR S I L R G c lo s) (hr : Rem S I L R c s I' L') (hm : s.2.2.2.2.2 < 1000000) (hk : CK S I L R G c lo Q (.inr 1) (wron s)) : Q (.inr 1) (mk S (wr I' c (up (I' c) 12 (w (s.2.2.2.2.2 + 1 : Nat)))) L' R (G.1 + 1, G.2.1 + 6, G.2.2)) := by
  have h2 := h.2.1
  have hc := hr.2.1 c (Nat.le_refl _) (by omega)
  refine hk S _ L' R _ (h.ask (ms := s.2.2.2.2.1) (wg := s.2.2.2.2.2 + 1) (Nat.le_succ _) (fun a h1 h2 => by rw [wr_ne (by omega)]; exact hr.2.1 a (by omega) h2) (fun a ha => by rw [wr_ne (by omega)]; exact hr.1 a (by omega)) (fun l hl => (hr.2.2 l hl).keep (fun a h1 h2 => by rw [wr_ne (by omega)]) (fun _ _ => rfl) (fun i r hi hrr y y1 y2 => ⟨rfl, by have := h.ruleFar hl i r hi hrr; rw [wr_ne (by omega)], rfl⟩)) (by rw [wr_same, up_ne (by decide), hc]) (by rw [wr_same, up_ne (by decide), hc]; exact h.2.2.2.2.2.2.2.2.2.2.2.1) (by rw [wr_same, up_same]) h.2.2.2.2.2.2.2.2.2.2.2.2.2.1 (by omega)) ⟨fun _ _ => rfl, fun a _ ha => ⟨by rw [wr_ne (by omega)]; exact (hr.1 a ha).1, (hr.1 a ha).2, rfl⟩, Nat.le_succ _, by show G.1 + 1 ≤ G.1 + 121; omega, Nat.le_add_right _ _, by show G.2.1 + 6 ≤ G.2.1 + 756; omega, rfl⟩
/-- a voice's call -/
theorem CR.vp (h : CR S I L R G c lo s) {l : Nat} (hl : l < 2) (hp : vp (s.2.1.2 l) I I' (c + 51 + 20 * l + 1)) : Rem S I L R c s I' L := by
  have h2 := h.2.1
  refine ⟨fun a ha => ⟨hp.1 a (by omega), rfl⟩, fun a h1 h2 => hp.1 a (by omega), fun l' hl' => ?_⟩
  have hR := (h.rank hl').2.1
  by_cases e : l' = l
  · subst e
    exact hR.vp hp (fun i r hi hr y y1 y2 => ⟨hp.1 y (by have := h.ruleFar hl' i r hi hr; omega), rfl⟩)
  · refine hR.keep (fun a h1 h2 => hp.1 a (by omega)) (fun _ _ => rfl) (fun i r hi hr y y1 y2 => ⟨rfl, hp.1 y (by have := h.ruleFar hl' i r hi hr; omega), rfl⟩)
end

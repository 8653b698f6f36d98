/-! the class's calls that change its rules: the state in between -/
/-- as CR, with the rules that the rankings know -/
def CP (S : SH) (I : MI) (L : ML) (R : MR) (G : MG) (c lo : Nat) (s : St) (ρ : Nat → List Rl) : Prop :=
  CLay S R c ∧ c + 121 ≤ lo ∧ lo ≤ G.1 ∧ (TapeAt I (c + 1) s.1 ∧ s.1.length ≤ 400 ∧ ∀ b ∈ s.1, 0 ≤ b ∧ b < 256) ∧ BookIs S I L R (c + 3) lo s.2.1 ∧ HistIs S I L R c lo s.2.2.1 ∧ Refs S R G c lo ∧
  (∀ l, l < 2 → RankIs S I L R (c + 51 + 20 * l) (ρ l)) ∧ I c 10 = w s.2.2.2.1 ∧ -1 ≤ s.2.2.2.1 ∧ s.2.2.2.1 ≤ 400 ∧ I c 11 = w s.2.2.2.2.1 ∧ I c 12 = w s.2.2.2.2.2 ∧ s.2.2.2.2.1 ≤ 1000000 ∧ s.2.2.2.2.2 ≤ 1000000
theorem CR.cp {S : SH} {I : MI} {L : ML} {R : MR} {G : MG} {c lo : Nat} {s : St} (h : CR S I L R G c lo s) : CP S I L R G c lo s s.2.1.2 := h
theorem CP.cr {S : SH} {I : MI} {L : ML} {R : MR} {G : MG} {c lo : Nat} {s : St} {ρ : Nat → List Rl} (h : CP S I L R G c lo s ρ) (e : ∀ l, l < 2 → ρ l = s.2.1.2 l) : CR S I L R G c lo s := by
  obtain ⟨a1, a2, a3, a4, a5, a6, a7, a8, a9⟩ := h
  exact ⟨a1, a2, a3, a4, a5, a6, a7, fun l hl => by rw [← e l hl]; exact a8 l hl, a9⟩
/-- rules' cells stay -/
def RF (S : SH) (I : MI) (L : ML) (G : MG) (lo : Nat) (S' : SH) (I' : MI) (L' : ML) : Prop := ∀ y, lo ≤ y → y < G.1 → S' y = S y ∧ I' y = I y ∧ L' y = L y
section
variable {S S' : SH} {I I' : MI} {L L' : ML} {R R' : MR} {G G' : MG} {c lo : Nat}
theorem BookIs.keep {b : Nat} {k : Bk} (h : BookIs S I L R b lo k) (hr : Ref2 S R G (b + 1) 60 lo) (hf : RF S I L G lo S' I' L') (e1 : I' b = I b) (e2 : I' (b + 2) = I (b + 2)) (e3 : R' (b + 1) = R (b + 1)) : BookIs S' I' L' R' b lo k := by
  refine ⟨by rw [e1]; exact h.1, h.2.1, h.2.2.1, fun l hl => ?_⟩
  have hb := h.2.2.2 l hl
  refine hb.keep (by rw [e2]) (fun i hi => by rw [e3]) (fun i r hi hrr y y1 y2 => ?_)
  have h30 := hb.2.1
  obtain ⟨r1, r2, r3⟩ := hr (l * 30 + i) (by have : l * 30 ≤ 30 := by omega
                                             omega) r hrr
  exact hf y (by omega) (by omega)
theorem Ref2.keep {b n : Nat} (h : Ref2 S R G b n lo) (eS : ∀ y, y < G.1 → S' y = S y) (eG : G.1 ≤ G'.1) (e : R' b = R b) : Ref2 S' R' G' b n lo := fun i hi r hr => by
  rw [e] at hr
  obtain ⟨a1, a2, a3⟩ := h i hi r hr
  exact ⟨a1, by omega, by rw [eS r (by omega)]; exact a3⟩
theorem RankIs.keep2 {k : Nat} {rs : List Rl} (h : RankIs S I L R k rs) (hr : Ref2 S R G (k + 13) 30 lo) (hf : RF S I L G lo S' I' L') (e1 : ∀ a, k ≤ a → a < k + 20 → I' a = I a) (e3 : R' (k + 13) = R (k + 13)) : RankIs S' I' L' R' k rs := by
  have h30 := h.1.2.1
  refine h.keep e1 (fun i hi => by rw [e3]) (fun i r hi hrr y y1 y2 => ?_)
  obtain ⟨r1, r2, r3⟩ := hr i (by omega) r hrr
  exact hf y (by omega) (by omega)
theorem HistIs.keep {hi : List Bk} (h : HistIs S I L R c lo hi) (hr : ∀ j, j < 12 → Ref2 S R G (c + 8 + 3 * j + 1) 60 lo) (hf : RF S I L G lo S' I' L') (e1 : ∀ a, c + 6 ≤ a → a < c + 44 → I' a = I a ∧ R' a = R a) : HistIs S' I' L' R' c lo hi := by
  obtain ⟨nx, n1, n2, n3, n4, n5⟩ := h
  refine ⟨nx, n1, by rw [(e1 _ (by omega) (by omega)).1]; exact n2, by rw [(e1 _ (by omega) (by omega)).1]; exact n3, n4, fun j hj => ?_⟩
  have hm := Nat.mod_lt (nx + 11 - j) (show 0 < 12 by decide)
  exact (n5 j hj).keep (hr _ hm) hf (e1 _ (by omega) (by omega)).1 (e1 _ (by omega) (by omega)).1 (e1 _ (by omega) (by omega)).2
theorem CLay.keep (h : CLay S R c) (hG : c + 121 ≤ G.1) (eS : ∀ y, y < G.1 → S' y = S y) (e7 : R' (c + 7) = R (c + 7)) : CLay S' R' c := by
  have e : ∀ a, a < 121 → S' (c + a) = S (c + a) := fun a ha => eS _ (by omega)
  have e0 := e 0 (by decide)
  rw [Nat.add_zero] at e0
  obtain ⟨t0, ⟨t1, t2⟩, ⟨b1, b2, b3⟩, ⟨h1, h2, h3⟩, ⟨r1, r2, r3, r4, r5, r6⟩, ⟨k0, ⟨v0, ⟨m0, m1, m2, m3, m4, m5⟩, ⟨q0, q1, q2, q3, q4⟩, v1, v2, v3, v4, v5⟩, k1, k2⟩, ⟨k0', ⟨v0', ⟨m0', m1', m2', m3', m4', m5'⟩, ⟨q0', q1', q2', q3', q4'⟩, v1', v2', v3', v4', v5'⟩, k1', k2'⟩, ⟨v0'', ⟨m0'', m1'', m2'', m3'', m4'', m5''⟩, ⟨q0'', q1'', q2'', q3'', q4''⟩, v1'', v2'', v3'', v4'', v5''⟩, ⟨w0, w1, w2, w3⟩, ⟨c0, c1, c2, c3, c4, c5, c6, c7⟩, l0⟩ := h
  refine ⟨by rw [e0]; exact t0, ⟨?_, ?_⟩, ⟨?_, ?_, ?_⟩, ⟨?_, ?_, fun i hi => ⟨by rw [e7]; exact (h3 i hi).1, ?_, ?_, ?_⟩⟩, ⟨?_, ?_, ?_, ?_, ?_, ?_⟩, ⟨?_, ⟨?_, ⟨?_, ?_, ?_, ?_, ?_, ?_⟩, ⟨?_, ?_, ?_, ?_, ?_⟩, ?_, ?_, ?_, ?_, ?_⟩, ?_, ?_⟩, ⟨?_, ⟨?_, ⟨?_, ?_, ?_, ?_, ?_, ?_⟩, ⟨?_, ?_, ?_, ?_, ?_⟩, ?_, ?_, ?_, ?_, ?_⟩, ?_, ?_⟩, ⟨?_, ⟨?_, ?_, ?_, ?_, ?_, ?_⟩, ⟨?_, ?_, ?_, ?_, ?_⟩, ?_, ?_, ?_, ?_, ?_⟩, ⟨?_, ?_, ?_, ?_⟩, ⟨?_, ?_, ?_, ?_, ?_, ?_, ?_, ?_⟩, ?_⟩
  all_goals first
    | (rw [eS _ (by omega)]; first | assumption | exact (h3 i hi).2.1 | exact (h3 i hi).2.2.1 | exact (h3 i hi).2.2.2)
end
def hkeep (s : St) : St := (s.1, s.2.1, (s.2.1 :: s.2.2.1).take 12, s.2.2.2.1, s.2.2.2.2.1, s.2.2.2.2.2)
def setB (s : St) (k : Bk) : St := (s.1, k, s.2.2.1, s.2.2.2.1, s.2.2.2.2.1, s.2.2.2.2.2)
def setL (k : Bk) (l : Nat) (rs : List Rl) : Bk := (k.1, fun m => if m = l then rs else k.2 m)
section
variable {d : Nat} {Q : XO → Hp → Prop} {S : SH} {I : MI} {L : ML} {R : MR} {G : MG} {A : Hp}
variable {c lo : Nat} {s : St} {ρ : Nat → List Rl}
/-- what was is kept, to be taken back -/
theorem CP.keepH (h : CP S I L R G c lo s ρ) (hQ : ∀ (I' : MI) (R' : MR), CP S I' L R' G c lo (hkeep s) ρ → (∀ a, (a < c + 6 ∨ c + 44 ≤ a) → I' a = I a ∧ R' a = R a) → Q (.inl none) (mk S I' L R' G)) : XC (d + 1) 23 [.ref (c + 6), .ref (c + 3)] (mk S I L R G) Q := by
  obtain ⟨a1, a2, a3, a4, a5, a6, ⟨r1, r2, r3, r4, r5⟩, a8, a9⟩ := h
  obtain ⟨nx, n1, n2, n3, n4, n5⟩ := a6
  refine sp_23 a1.2.2.2.1 n2 n1 n3 n4 a1.2.2.1 (by omega) r1.ok (fun I1 R1 hb => ?_)
  obtain ⟨f1, f2, f3, f4, f5, f6⟩ := hb
  have eb : c + 6 + 2 + 3 * nx = c + 8 + 3 * nx := by omega
  rw [eb] at f1 f2 f3 f4 f5 f6
  have g1 : ∀ a, a ≠ c + 6 → a ≠ c + 8 + 3 * nx → a ≠ c + 8 + 3 * nx + 2 → wr I1 (c + 6) (up (up (I1 (c + 6)) 1 (w ((nx + 1) % 12 : Nat))) 2 (w (min (s.2.2.1.length + 1) 12 : Nat))) a = I a := fun a h1 h2 h3 => by rw [wr_ne h1, f1 a h2 h3]
  have gn : ∀ a, a ≠ c + 6 → wr I1 (c + 6) (up (up (I1 (c + 6)) 1 (w ((nx + 1) % 12 : Nat))) 2 (w (min (s.2.2.1.length + 1) 12 : Nat))) a = I1 a := fun a h1 => wr_ne h1
  have gh1 : wr I1 (c + 6) (up (up (I1 (c + 6)) 1 (w ((nx + 1) % 12 : Nat))) 2 (w (min (s.2.2.1.length + 1) 12 : Nat))) (c + 6) 1 = w ((nx + 1) % 12 : Nat) := by rw [wr_same, up_ne (by decide), up_same]
  have gh2 : wr I1 (c + 6) (up (up (I1 (c + 6)) 1 (w ((nx + 1) % 12 : Nat))) 2 (w (min (s.2.2.1.length + 1) 12 : Nat))) (c + 6) 2 = w (min (s.2.2.1.length + 1) 12 : Nat) := by rw [wr_same, up_same]
  generalize wr I1 (c + 6) (up (up (I1 (c + 6)) 1 (w ((nx + 1) % 12 : Nat))) 2 (w (min (s.2.2.1.length + 1) 12 : Nat))) = I' at g1 gn gh1 gh2 ⊢
  have hfr : ∀ a, (a < c + 6 ∨ c + 44 ≤ a) → I' a = I a ∧ R1 a = R a := fun a ha => ⟨g1 a (by omega) (by omega) (by omega), f3 a (by omega)⟩
  have hRF : RF S I L G lo S I' L := fun y y1 y2 => ⟨rfl, (hfr y (by omega)).1, rfl⟩
  have ec : ∀ a, (a < c + 6 ∨ c + 44 ≤ a) → I' a = I a := fun a ha => (hfr a ha).1
  have hRef : ∀ j, j < 12 → Ref2 S R1 G (c + 8 + 3 * j + 1) 60 lo := fun j hj => by
    by_cases e : j = nx
    · subst e
      intro i hi r hr
      rw [f4 i hi] at hr
      exact r1 i hi r hr
    · intro i hi r hr
      rw [f3 _ (by omega)] at hr
      exact r2 j hj i hi r hr
  refine hQ I' R1 ⟨a1.keep (G := G) (by omega) (fun _ _ => rfl) (f3 _ (by omega)), a2, a3, ⟨⟨by rw [ec _ (by omega)]; exact a4.1.1, by rw [ec _ (by omega)]; exact a4.1.2⟩, a4.2⟩, a5.keep r1 hRF (ec _ (by omega)) (ec _ (by omega)) (f3 _ (by omega)), ?_, ⟨r1.keep (fun _ _ => rfl) (Nat.le_refl _) (f3 _ (by omega)), hRef, r3.keep (fun _ _ => rfl) (Nat.le_refl _) (f3 _ (by omega)), r4.keep (fun _ _ => rfl) (Nat.le_refl _) (f3 _ (by omega)), r5.keep (fun _ _ => rfl) (Nat.le_refl _) (f3 _ (by omega))⟩, fun l hl => ?_, ?_⟩ hfr
  · refine ⟨(nx + 1) % 12, Nat.mod_lt _ (by decide), gh1, ?_, ?_, fun j hj => ?_⟩
    · rw [gh2]
      show _ = w ((s.2.1 :: s.2.2.1).take 12).length
      rw [List.length_take, List.length_cons, Nat.min_comm]
    · show ((s.2.1 :: s.2.2.1).take 12).length ≤ 12
      rw [List.length_take]; omega
    · have hj' : j < 12 ∧ j < s.2.2.1.length + 1 := by
        have : j < ((s.2.1 :: s.2.2.1).take 12).length := hj
        rw [List.length_take, List.length_cons] at this
        omega
      show BookIs S I' L R1 _ lo (((s.2.1 :: s.2.2.1).take 12).getD j bk0)
      have egd : ((s.2.1 :: s.2.2.1).take 12).getD j bk0 = (s.2.1 :: s.2.2.1).getD j bk0 := by
        simp only [List.getD_eq_getElem?_getD, List.getElem?_take]
        rw [if_pos hj'.1]
      rw [egd]
      cases j with
      | zero =>
        have e0 : ((nx + 1) % 12 + 11 - 0) % 12 = nx := by omega
        rw [e0]
        show BookIs S I' L R1 _ lo s.2.1
        refine ⟨by rw [gn _ (by omega), f6]; exact a5.1, a5.2.1, a5.2.2.1, fun l hl => ?_⟩
        have hb := a5.2.2.2 l hl
        refine ⟨by rw [gn _ (by omega), f5 l hl]; exact hb.1, hb.2.1, fun i hi => ?_⟩
        obtain ⟨r, q1, q2, q3⟩ := hb.2.2 i hi
        have h30 := hb.2.1
        have hl30 : l * 30 ≤ 30 := by omega
        obtain ⟨x1, x2, x3⟩ := r1 (l * 30 + i) (by omega) r q1
        exact ⟨r, by rw [f4 _ (by omega)]; exact q1, q2, q3.keep (fun y y1 y2 => hRF y (by omega) (by omega))⟩
      | succ j =>
        have e0 : ((nx + 1) % 12 + 11 - (j + 1)) % 12 = (nx + 11 - j) % 12 := by omega
        have e1 : (nx + 11 - j) % 12 ≠ nx := by omega
        have e2 := Nat.mod_lt (nx + 11 - j) (show 0 < 12 by decide)
        rw [e0]
        show BookIs S I' L R1 _ lo (s.2.2.1.getD j bk0)
        exact (n5 j (by omega)).keep (r2 _ e2) hRF (g1 _ (by omega) (by omega) (by omega)) (g1 _ (by omega) (by omega) (by omega)) (f3 _ (by omega))
  · refine (a8 l hl).keep2 (lo := lo) (G := G) ?_ hRF (fun a h1 h2 => ec a (by omega)) (f3 _ (by omega))
    have : l = 0 ∨ l = 1 := by omega
    rcases this with rfl | rfl
    · exact r3
    · exact r4
  · rw [ec c (by omega)]; exact a9
/-- a language's voice learns the rules of now -/
theorem sp_114 {l : Nat} (h : CP S I L R G c lo s ρ) (hl : l < 2) (hQ : ∀ (I' : MI) (R' : MR), CP S I' L R' G c lo s (fun m => if m = l then s.2.1.2 l else ρ m) → (∀ a, (a < c + 51 ∨ c + 91 ≤ a) → I' a = I a ∧ R' a = R a) → Q (.inl none) (mk S I' L R' G)) : XC (d + 4) 114 [.ref c, .int (w l)] (mk S I L R G) Q := by
  have hc := h.1.1
  obtain ⟨a1, a2, a3, a4, a5, a6, ⟨r1, r2, r3, r4, r5⟩, a8, a9⟩ := h
  have p141 := fun {d : Nat} {Q : XO → Hp → Prop} => sp_141 (d := d) (Q := Q) (S := S) (I := I) (L := L) (R := R) (G := G) (c := c) hl hc
  have hK : RankS S (c + 51 + 20 * l) := by
    have : l = 0 ∨ l = 1 := by omega
    rcases this with rfl | rfl
    · exact a1.2.2.2.2.2.1
    · exact a1.2.2.2.2.2.2.1
  have hr : Ref2 S R G (c + 51 + 20 * l + 13) 30 lo := by
    have : l = 0 ∨ l = 1 := by omega
    rcases this with rfl | rfl
    · exact r3
    · exact r4
  obtain ⟨k, hk⟩ : ∃ k, k = c + 51 + 20 * l := ⟨_, rfl⟩
  rw [← hk] at hK hr
  simp only [← hk] at p141
  have hK0 := hK.1
  simp (disch := omega) only [q_114_0, q_114_1, q_114_2, q_114_5, q_114_6, q_114_7, q_114_10, q_114_11, q_114_14, q_114_15, q_114_16, q_114_19, q_114_20, q_114_23, q_114_e, va_rf_s, bz_0, bz_1, bz_ok, bb_ok, Nat.add_assoc, w_lt, w_add, w_sub, w_mul, w_div, em_def, w_eq, w_inT, ↓ilt_t, ↓ilt_f, ↓ieq_t, ↓ieq_f, ntT, w_b, w_ix, kx_v, kx_n, kl_n, kl_i, kl_r, kl_o, inA_i, inA_s, inA_b, inA_z, inA_l, inA_0, inA_4, inA_5, inA_6, inA_7, inA_8, inA_9, inA_10, al_0, al_1, al_2, al_4, al_5, al_98, bsP_2, bsP_3, wr_same, wr_wr, wr_ne, up_same, up_ne, Nat.reduceAdd, Int.reduceAdd, Int.reduceSub, Int.reduceMul, Int.reduceLT, Int.reduceLE, Int.reduceEq, Int.reduceNeg, Int.reduceToNat, Nat.reduceLT, Nat.reduceLeDiff, Nat.reduceEqDiff, ↓reduceIte, true_and, and_true, not_true_eq_false, not_false_eq_true, eq_self, or_true, true_or, or_false, false_or, if_true, if_false, Int.toNat_natCast, w_ite, Nat.add_zero, reduceCtorEq, ne_eq, hc, p141, hK0, hK.2.1.1]
  refine sp_81 (z := -1) hK.2.1 a1.2.2.1 hl (a5.2.2.2 l hl) (by omega) (by omega) (by decide) (by decide) (fun I1 R1 f1 f2 hR hM hU hnu hor => ?_)
  have erw : rsW (s.2.1.2 l) (-1) = s.2.1.2 l := by unfold rsW; rw [if_neg (by omega)]
  rw [erw] at hR hM hU
  have s42 := fun {d : Nat} {Q : XO → Hp → Prop} => sp_42 (d := d) (Q := Q) (I := I1) (L := L) (R := R1) (G := G) hK0
  simp (disch := omega) only [q_114_0, q_114_1, q_114_2, q_114_5, q_114_6, q_114_7, q_114_10, q_114_11, q_114_14, q_114_15, q_114_16, q_114_19, q_114_20, q_114_23, q_114_e, va_rf_s, bz_0, bz_1, bz_ok, bb_ok, Nat.add_assoc, w_lt, w_add, w_sub, w_mul, w_div, em_def, w_eq, w_inT, ↓ilt_t, ↓ilt_f, ↓ieq_t, ↓ieq_f, ntT, w_b, w_ix, kx_v, kx_n, kl_n, kl_i, kl_r, kl_o, inA_i, inA_s, inA_b, inA_z, inA_l, inA_0, inA_4, inA_5, inA_6, inA_7, inA_8, inA_9, inA_10, al_0, al_1, al_2, al_4, al_5, al_98, bsP_2, bsP_3, wr_same, wr_wr, wr_ne, up_same, up_ne, Nat.reduceAdd, Int.reduceAdd, Int.reduceSub, Int.reduceMul, Int.reduceLT, Int.reduceLE, Int.reduceEq, Int.reduceNeg, Int.reduceToNat, Nat.reduceLT, Nat.reduceLeDiff, Nat.reduceEqDiff, ↓reduceIte, true_and, and_true, not_true_eq_false, not_false_eq_true, eq_self, or_true, true_or, or_false, false_or, if_true, if_false, Int.toNat_natCast, w_ite, Nat.add_zero, reduceCtorEq, ne_eq, hK0, s42]
  have g1 : ∀ a, a ≠ k → wr I1 k (up (I1 k) 4 (w (-1))) a = I1 a := fun a ha => wr_ne ha
  have g2 : wr I1 k (up (I1 k) 4 (w (-1))) k 4 = w (-1) := by rw [wr_same, up_same]
  generalize wr I1 k (up (I1 k) 4 (w (-1))) = I' at g1 g2 ⊢
  have hfr : ∀ a, (a < k ∨ k + 20 ≤ a) → I' a = I a ∧ R1 a = R a := fun a ha => ⟨by rw [g1 a (by omega), f1 a (by omega)], f2 a (by omega)⟩
  have hRF : RF S I L G lo S I' L := fun y y1 y2 => ⟨rfl, (hfr y (by omega)).1, rfl⟩
  have hrn : Ref2 S R1 G (k + 13) 30 lo := fun i hi r hr1 => by
    rcases hor i hi with ⟨q, hq, e⟩ | e
    · have : R1 (k + 13) i = R (c + 4) q := e
      rw [this] at hr1; exact r1 q hq r hr1
    · have : R1 (k + 13) i = R (k + 13) i := e
      rw [this] at hr1; exact hr i hi r hr1
  have hRI : RankIs S I' L R1 k (s.2.1.2 l) := by
    have hv := vq.same hM hU (I' := I') (fun a ha hb => g1 a (by omega))
    refine ⟨hR.congr' (hrn.lo (I := I1) (L := L) hR.2.1) (fun a ha => g1 a (by omega)) hv.1, hv.2.1, hv.2.2.1, Or.inl g2⟩
  have hrf : ∀ m, m < 2 → Ref2 S R1 G (c + 51 + 20 * m + 13) 30 lo := fun m hm => by
    by_cases e : m = l
    · subst e; rw [← hk]; exact hrn
    · have hr0 : Ref2 S R G (c + 51 + 20 * m + 13) 30 lo := by
        have : m = 0 ∨ m = 1 := by omega
        rcases this with rfl | rfl
        · exact r3
        · exact r4
      exact hr0.keep (fun _ _ => rfl) (Nat.le_refl _) (f2 _ (by omega))
  refine hQ I' R1 ⟨a1.keep (G := G) (by omega) (fun _ _ => rfl) (f2 _ (by omega)), a2, a3, ⟨⟨by rw [(hfr _ (by omega)).1]; exact a4.1.1, by rw [(hfr _ (by omega)).1]; exact a4.1.2⟩, a4.2⟩, a5.keep r1 hRF (hfr _ (by omega)).1 (hfr _ (by omega)).1 (hfr _ (by omega)).2, a6.keep r2 hRF (fun a h1 h2 => hfr a (by omega)), ⟨r1.keep (fun _ _ => rfl) (Nat.le_refl _) (f2 _ (by omega)), fun j hj => (r2 j hj).keep (fun _ _ => rfl) (Nat.le_refl _) (f2 _ (by omega)), hrf 0 (by decide), hrf 1 (by decide), r5.keep (fun _ _ => rfl) (Nat.le_refl _) (f2 _ (by omega))⟩, fun m hm => ?_, ?_⟩ (fun a ha => hfr a (by omega))
  · dsimp only
    by_cases e : m = l
    · subst e; rw [if_pos rfl, ← hk]; exact hRI
    · rw [if_neg e]
      refine (a8 m hm).keep2 (lo := lo) (G := G) ?_ hRF (fun a h1 h2 => (hfr a (by omega)).1) (f2 _ (by omega))
      have : m = 0 ∨ m = 1 := by omega
      rcases this with rfl | rfl
      · exact r3
      · exact r4
  · rw [(hfr c (by omega)).1]; exact a9
end

/-! the state of the class; refusals -/
abbrev Bk : Type := Nat × (Nat → List Rl)
/-- tape, rules and limit, what can be taken back (latest first), place of the fault, refusals -/
abbrev St : Type := List Int × Bk × List Bk × Int × Nat × Nat
def bk0 : Bk := (0, fun _ => [])
/-- references in a row are rules' -/
def Ref2 (S : SH) (R : MR) (G : MG) (b n lo : Nat) : Prop := ∀ i, i < n → ∀ r, R b i = some r → lo ≤ r ∧ r + 3 < G.1 ∧ S r = some (.inr 6)
theorem Ref2.ok {S : SH} {R : MR} {G : MG} {b n lo : Nat} (h : Ref2 S R G b n lo) : ∀ i, i < n → rOk S (R b i) := fun i hi y hy => (h i hi y hy).2.2
def CLay (S : SH) (R : MR) (c : Nat) : Prop := S c = some (.inr 11) ∧ TapeS S (c + 1) ∧ BookS S (c + 3) ∧ HistS S R (c + 6) ∧ RdS0 S (c + 44) ∧ RankS S (c + 51) ∧ RankS S (c + 71) ∧ VoiS S (c + 91) ∧ WcS S (c + 108) ∧ ChS S (c + 112) ∧ S (c + 120) = some (.inl (0, 103))
def BookIs (S : SH) (I : MI) (L : ML) (R : MR) (b lo : Nat) (k : Bk) : Prop := I b 2 = w k.1 ∧ 1 ≤ k.1 ∧ k.1 ≤ 1000 ∧ ∀ l, l < 2 → BkL S I L R b lo l (k.2 l)
def HistIs (S : SH) (I : MI) (L : ML) (R : MR) (c lo : Nat) (hi : List Bk) : Prop := ∃ nx : Nat, nx < 12 ∧ I (c + 6) 1 = w nx ∧ I (c + 6) 2 = w hi.length ∧ hi.length ≤ 12 ∧ ∀ j, j < hi.length → BookIs S I L R (c + 8 + 3 * ((nx + 11 - j) % 12)) lo (hi.getD j bk0)
def RankIs (S : SH) (I : MI) (L : ML) (R : MR) (k : Nat) (rs : List Rl) : Prop := RsAt S I L R (k + 1) rs ∧ MInv rs I (k + 1) ∧ UInv rs I (k + 1) ∧ RankOk rs I k
def Refs (S : SH) (R : MR) (G : MG) (c lo : Nat) : Prop := Ref2 S R G (c + 4) 60 lo ∧ (∀ j, j < 12 → Ref2 S R G (c + 8 + 3 * j + 1) 60 lo) ∧ Ref2 S R G (c + 64) 30 lo ∧ Ref2 S R G (c + 84) 30 lo ∧ Ref2 S R G (c + 103) 30 lo
/-- the class's object and all that belongs to it -/
def CR (S : SH) (I : MI) (L : ML) (R : MR) (G : MG) (c lo : Nat) (s : St) : Prop :=
  CLay S R c ∧ c + 121 ≤ lo ∧ lo ≤ G.1 ∧ (TapeAt I (c + 1) s.1 ∧ s.1.length ≤ 400 ∧ ∀ b ∈ s.1, 0 ≤ b ∧ b < 256) ∧ BookIs S I L R (c + 3) lo s.2.1 ∧ HistIs S I L R c lo s.2.2.1 ∧ Refs S R G c lo ∧
  (∀ l, l < 2 → RankIs S I L R (c + 51 + 20 * l) (s.2.1.2 l)) ∧ I c 10 = w s.2.2.2.1 ∧ -1 ≤ s.2.2.2.1 ∧ s.2.2.2.1 ≤ 400 ∧ I c 11 = w s.2.2.2.2.1 ∧ I c 12 = w s.2.2.2.2.2 ∧ s.2.2.2.2.1 ≤ 1000000 ∧ s.2.2.2.2.2 ≤ 1000000
/-- outcomes: an answer or a refusal -/
def outX (o : Int ⊕ Nat) : XO := match o with
  | .inl v => .inl (some (.int (w v)))
  | .inr E => .inr E
def miss (s : St) : St := (s.1, s.2.1, s.2.2.1, s.2.2.2.1, s.2.2.2.2.1 + 1, s.2.2.2.2.2)
def wron (s : St) : St := (s.1, s.2.1, s.2.2.1, s.2.2.2.1, s.2.2.2.2.1, s.2.2.2.2.2 + 1)
theorem BkL.keep {S S' : SH} {I I' : MI} {L L' : ML} {R R' : MR} {b lo l : Nat} {rs : List Rl} (h : BkL S I L R b lo l rs) (e1 : I' (b + 2) l = I (b + 2) l) (e2 : ∀ i, i < rs.length → R' (b + 1) (l * 30 + i) = R (b + 1) (l * 30 + i)) (e3 : ∀ i r, i < rs.length → R (b + 1) (l * 30 + i) = some r → ∀ y, r ≤ y → y ≤ r + 3 → S' y = S y ∧ I' y = I y ∧ L' y = L y) : BkL S' I' L' R' b lo l rs := by
  refine ⟨e1.trans h.1, h.2.1, fun i hi => ?_⟩
  obtain ⟨r, r1, r2, r3⟩ := h.2.2 i hi
  exact ⟨r, by rw [e2 i hi]; exact r1, r2, r3.keep (e3 i r hi r1)⟩
theorem RsAt.keep {S S' : SH} {I I' : MI} {L L' : ML} {R R' : MR} {v : Nat} {rs : List Rl} (h : RsAt S I L R v rs) (e1 : I' v 3 = I v 3) (e2 : ∀ i, i < rs.length → R' (v + 12) i = R (v + 12) i) (e3 : ∀ i r, i < rs.length → R (v + 12) i = some r → ∀ y, r ≤ y → y ≤ r + 3 → S' y = S y ∧ I' y = I y ∧ L' y = L y) : RsAt S' I' L' R' v rs := by
  refine ⟨e1.trans h.1, h.2.1, fun i hi => ?_⟩
  obtain ⟨r, r1, r2, r3⟩ := h.2.2 i hi
  exact ⟨r, by rw [e2 i hi]; exact r1, r2, r3.keep (e3 i r hi r1)⟩
theorem Ref2.lo {S : SH} {I : MI} {L : ML} {R : MR} {G : MG} {v lo : Nat} {rs : List Rl} (h : Ref2 S R G (v + 12) 30 lo) (hl : rs.length ≤ 30) : RsLo R v lo rs := fun i hi r hr => (h i (by omega) r hr).1
theorem RankIs.keep {S S' : SH} {I I' : MI} {L L' : ML} {R R' : MR} {k : Nat} {rs : List Rl} (h : RankIs S I L R k rs) (e1 : ∀ a, k ≤ a → a < k + 20 → I' a = I a) (e2 : ∀ i, i < rs.length → R' (k + 13) i = R (k + 13) i) (e3 : ∀ i r, i < rs.length → R (k + 13) i = some r → ∀ y, r ≤ y → y ≤ r + 3 → S' y = S y ∧ I' y = I y ∧ L' y = L y) : RankIs S' I' L' R' k rs := by
  obtain ⟨h1, h2, h3, h4⟩ := h
  have hv := vq.same h2 h3 (I' := I') (fun a ha hb => e1 a (by omega) (by omega))
  refine ⟨h1.keep (by rw [e1 _ (by omega) (by omega)]) e2 e3, hv.2.1, hv.2.2.1, ?_⟩
  rcases h4 with h4 | ⟨p, p1, p2, p3⟩
  · exact Or.inl (by rw [e1 k (by omega) (by omega)]; exact h4)
  · exact Or.inr ⟨p, p1, by rw [e1 k (by omega) (by omega)]; exact p2, p3.keep p1 (by rw [e1 k (by omega) (by omega)]) (e1 _ (by omega) (by omega)) hv⟩
/-- what a voice does leaves its ranking so -/
theorem RankIs.vp {S : SH} {I I' : MI} {L L' : ML} {R : MR} {k : Nat} {rs : List Rl} (h : RankIs S I L R k rs) (hp : vp rs I I' (k + 1)) (e3 : ∀ i r, i < rs.length → R (k + 13) i = some r → ∀ y, r ≤ y → y ≤ r + 3 → I' y = I y ∧ L' y = L y) : RankIs S I' L' R k rs := by
  obtain ⟨h1, h2, h3, h4⟩ := h
  have hv := hp.vq
  refine ⟨h1.keep hp.2.1 (fun _ _ => rfl) (fun i r hi hr y y1 y2 => ⟨rfl, e3 i r hi hr y y1 y2⟩), hv.2.1, hv.2.2.1, ?_⟩
  rcases h4 with h4 | ⟨p, p1, p2, p3⟩
  · exact Or.inl (by rw [hp.1 k (by omega)]; exact h4)
  · exact Or.inr ⟨p, p1, by rw [hp.1 k (by omega)]; exact p2, p3.keep p1 (by rw [hp.1 k (by omega)]) (hp.1 _ (by omega)) hv⟩
theorem Refs.mono {S : SH} {R : MR} {G G' : MG} {c lo : Nat} (h : Refs S R G c lo) (hG : G.1 ≤ G'.1) : Refs S R G' c lo := by
  have m : ∀ b n, Ref2 S R G b n lo → Ref2 S R G' b n lo := fun b n h i hi r hr => by
    obtain ⟨a1, a2, a3⟩ := h i hi r hr
    exact ⟨a1, by omega, a3⟩
  obtain ⟨a1, a2, a3, a4, a5⟩ := h
  exact ⟨m _ _ a1, fun j hj => m _ _ (a2 j hj), m _ _ a3, m _ _ a4, m _ _ a5⟩
theorem CR.rank {S : SH} {I : MI} {L : ML} {R : MR} {G : MG} {c lo l : Nat} {s : St} (h : CR S I L R G c lo s) (hl : l < 2) : RankS S (c + 51 + 20 * l) ∧ RankIs S I L R (c + 51 + 20 * l) (s.2.1.2 l) ∧ Ref2 S R G (c + 51 + 20 * l + 13) 30 lo := by
  obtain ⟨⟨a0, a1, a2, a3, a4, a5, a6, a7, a8, a9, a10⟩, b1, b2, b3, b4, b5, ⟨r1, r2, r3, r4, r5⟩, b7, -⟩ := h
  refine ⟨?_, b7 l hl, ?_⟩
  · have : l = 0 ∨ l = 1 := by omega
    rcases this with rfl | rfl
    · exact a5
    · exact a6
  · have : l = 0 ∨ l = 1 := by omega
    rcases this with rfl | rfl
    · exact r3
    · exact r4
/-- calls that ask: only what is remembered of voices, rankings and the rest changes -/
theorem CR.ask {S : SH} {I I' : MI} {L L' : ML} {R : MR} {G G' : MG} {c lo : Nat} {s : St} {ms wg : Nat} (h : CR S I L R G c lo s) (hG : G.1 ≤ G'.1) (e1 : ∀ a, c < a → a < c + 44 → I' a = I a) (e2 : ∀ a, lo ≤ a → I' a = I a ∧ L' a = L a) (e3 : ∀ l, l < 2 → RankIs S I' L' R (c + 51 + 20 * l) (s.2.1.2 l)) (e4 : I' c 10 = I c 10) (e5 : I' c 11 = w ms) (e6 : I' c 12 = w wg) (e7 : ms ≤ 1000000) (e8 : wg ≤ 1000000) : CR S I' L' R G' c lo (s.1, s.2.1, s.2.2.1, s.2.2.2.1, ms, wg) := by
  obtain ⟨a1, a2, a3, a4, a5, a6, a7, a8, a9, a10, a11, a12⟩ := h
  have bk : ∀ b k, c < b → b + 2 < c + 44 → BookIs S I L R b lo k → BookIs S I' L' R b lo k := fun b k h1 h2 h => by
    refine ⟨by rw [e1 b h1 (by omega)]; exact h.1, h.2.1, h.2.2.1, fun l hl => ?_⟩
    have hb := h.2.2.2 l hl
    refine hb.keep (by rw [e1 (b + 2) (by omega) (by omega)]) (fun _ _ => rfl) (fun i r hi hr y y1 y2 => ?_)
    obtain ⟨r', r1, r2, r3⟩ := hb.2.2 i hi
    rw [hr] at r1
    cases r1
    exact ⟨rfl, e2 y (by omega)⟩
  refine ⟨a1, a2, by omega, ⟨⟨by rw [e1 _ (by omega) (by omega)]; exact a4.1.1, by rw [e1 _ (by omega) (by omega)]; exact a4.1.2⟩, a4.2⟩, bk _ _ (by omega) (by omega) a5, ?_, a7.mono hG, e3, by rw [e4]; exact a9, a10, a11, e5, e6, e7, e8⟩
  obtain ⟨nx, n1, n2, n3, n4, n5⟩ := a6
  refine ⟨nx, n1, by rw [e1 _ (by omega) (by omega)]; exact n2, by rw [e1 _ (by omega) (by omega)]; exact n3, n4, fun j hj => bk _ _ (by omega) ?_ (n5 j hj)⟩
  have := Nat.mod_lt (nx + 11 - j) (show 0 < 12 by decide)
  omega
section
variable {d : Nat} {Q : XO → Hp → Prop} {S : SH} {I : MI} {L : ML} {R : MR} {G : MG} {A : Hp}
variable {c : Nat}
theorem sp_146 {v l h : Int} (hv : l ≤ v ∧ v ≤ h) (h1 : -2147483648 ≤ v) (h2 : v < 2147483648) (l1 : -2147483648 ≤ l) (l2 : l < 2147483648) (k1 : -2147483648 ≤ h) (k2 : h < 2147483648) : XC d 146 [.ref c, .int (w v), .int (w l), .int (w h)] (mk S I L R G) Q ↔ Q (.inl none) (mk S I L R G) := by
  simp (disch := omega) only [q_146_0, q_146_1, q_146_2, q_146_5, q_146_6, q_146_7, q_146_10, q_146_11, q_146_12, q_146_15, q_146_16, q_146_17, q_146_20, q_146_31, q_146_e, va_rf_s, bz_0, bz_1, bz_ok, bb_ok, Nat.add_assoc, w_lt, w_add, w_sub, w_mul, w_div, em_def, w_eq, w_inT, ↓ilt_t, ↓ilt_f, ↓ieq_t, ↓ieq_f, ntT, w_b, w_ix, kx_v, kx_n, kl_n, kl_i, kl_r, kl_o, inA_i, inA_s, inA_b, inA_z, inA_l, inA_0, inA_4, inA_5, inA_6, inA_7, inA_8, inA_9, inA_10, al_0, al_1, al_2, al_4, al_5, al_98, bsP_2, bsP_3, wr_same, wr_wr, wr_ne, up_same, up_ne, Nat.reduceAdd, Int.reduceAdd, Int.reduceSub, Int.reduceMul, Int.reduceLT, Int.reduceLE, Int.reduceEq, Int.reduceNeg, Int.reduceToNat, Nat.reduceLT, Nat.reduceLeDiff, Nat.reduceEqDiff, ↓reduceIte, true_and, and_true, not_true_eq_false, not_false_eq_true, eq_self, or_true, true_or, or_false, false_or, if_true, if_false, Int.toNat_natCast, w_ite, Nat.add_zero, reduceCtorEq, ne_eq]
theorem sp_146x {v l h : Int} {wg : Nat} (hc : S c = some (.inr 11)) (hg : I c 12 = w wg) (hv : v < l ∨ h < v) (h1 : -2147483648 ≤ v) (h2 : v < 2147483648) (l1 : -2147483648 ≤ l) (l2 : l < 2147483648) (k1 : -2147483648 ≤ h) (k2 : h < 2147483648) : XC d 146 [.ref c, .int (w v), .int (w l), .int (w h)] (mk S I L R G) Q ↔ Q (.inr 1) (mk S (wr I c (up (I c) 12 (w (wg + 1 : Nat)))) L R (G.1 + 1, G.2.1 + 6, G.2.2)) := by
  simp only [Int.natCast_add, Int.natCast_one]
  by_cases c1 : v < l
  · simp (disch := omega) only [q_146_0, q_146_1, q_146_2, q_146_5, q_146_6, q_146_7, q_146_10, q_146_11, q_146_12, q_146_15, q_146_16, q_146_17, q_146_20, q_146_31, q_146_e, va_rf_s, bz_0, bz_1, bz_ok, bb_ok, Nat.add_assoc, w_lt, w_add, w_sub, w_mul, w_div, em_def, w_eq, w_inT, ↓ilt_t, ↓ilt_f, ↓ieq_t, ↓ieq_f, ntT, w_b, w_ix, kx_v, kx_n, kl_n, kl_i, kl_r, kl_o, inA_i, inA_s, inA_b, inA_z, inA_l, inA_0, inA_4, inA_5, inA_6, inA_7, inA_8, inA_9, inA_10, al_0, al_1, al_2, al_4, al_5, al_98, bsP_2, bsP_3, wr_same, wr_wr, wr_ne, up_same, up_ne, Nat.reduceAdd, Int.reduceAdd, Int.reduceSub, Int.reduceMul, Int.reduceLT, Int.reduceLE, Int.reduceEq, Int.reduceNeg, Int.reduceToNat, Nat.reduceLT, Nat.reduceLeDiff, Nat.reduceEqDiff, ↓reduceIte, true_and, and_true, not_true_eq_false, not_false_eq_true, eq_self, or_true, true_or, or_false, false_or, if_true, if_false, Int.toNat_natCast, w_ite, Nat.add_zero, reduceCtorEq, ne_eq, hc, hg]
  · simp (disch := omega) only [q_146_0, q_146_1, q_146_2, q_146_5, q_146_6, q_146_7, q_146_10, q_146_11, q_146_12, q_146_15, q_146_16, q_146_17, q_146_20, q_146_31, q_146_e, va_rf_s, bz_0, bz_1, bz_ok, bb_ok, Nat.add_assoc, w_lt, w_add, w_sub, w_mul, w_div, em_def, w_eq, w_inT, ↓ilt_t, ↓ilt_f, ↓ieq_t, ↓ieq_f, ntT, w_b, w_ix, kx_v, kx_n, kl_n, kl_i, kl_r, kl_o, inA_i, inA_s, inA_b, inA_z, inA_l, inA_0, inA_4, inA_5, inA_6, inA_7, inA_8, inA_9, inA_10, al_0, al_1, al_2, al_4, al_5, al_98, bsP_2, bsP_3, wr_same, wr_wr, wr_ne, up_same, up_ne, Nat.reduceAdd, Int.reduceAdd, Int.reduceSub, Int.reduceMul, Int.reduceLT, Int.reduceLE, Int.reduceEq, Int.reduceNeg, Int.reduceToNat, Nat.reduceLT, Nat.reduceLeDiff, Nat.reduceEqDiff, ↓reduceIte, true_and, and_true, not_true_eq_false, not_false_eq_true, eq_self, or_true, true_or, or_false, false_or, if_true, if_false, Int.toNat_natCast, w_ite, Nat.add_zero, reduceCtorEq, ne_eq, hc, hg]
theorem sp_145 {v h : Int} (hv : 0 ≤ v ∧ v < h) (h1 : -2147483648 ≤ v) (h2 : v < 2147483648) (k1 : -2147483648 ≤ h) (k2 : h < 2147483648) : XC d 145 [.ref c, .int (w v), .int (w h)] (mk S I L R G) Q ↔ Q (.inl none) (mk S I L R G) := by
  simp (disch := omega) only [q_145_0, q_145_1, q_145_4, q_145_5, q_145_6, q_145_9, q_145_10, q_145_11, q_145_14, q_145_15, q_145_16, q_145_19, q_145_30, q_145_e, va_rf_s, bz_0, bz_1, bz_ok, bb_ok, Nat.add_assoc, w_lt, w_add, w_sub, w_mul, w_div, em_def, w_eq, w_inT, ↓ilt_t, ↓ilt_f, ↓ieq_t, ↓ieq_f, ntT, w_b, w_ix, kx_v, kx_n, kl_n, kl_i, kl_r, kl_o, inA_i, inA_s, inA_b, inA_z, inA_l, inA_0, inA_4, inA_5, inA_6, inA_7, inA_8, inA_9, inA_10, al_0, al_1, al_2, al_4, al_5, al_98, bsP_2, bsP_3, wr_same, wr_wr, wr_ne, up_same, up_ne, Nat.reduceAdd, Int.reduceAdd, Int.reduceSub, Int.reduceMul, Int.reduceLT, Int.reduceLE, Int.reduceEq, Int.reduceNeg, Int.reduceToNat, Nat.reduceLT, Nat.reduceLeDiff, Nat.reduceEqDiff, ↓reduceIte, true_and, and_true, not_true_eq_false, not_false_eq_true, eq_self, or_true, true_or, or_false, false_or, if_true, if_false, Int.toNat_natCast, w_ite, Nat.add_zero, reduceCtorEq, ne_eq]
theorem sp_145x {v h : Int} {ms : Nat} (hc : S c = some (.inr 11)) (hg : I c 11 = w ms) (hv : v < 0 ∨ h ≤ v) (h1 : -2147483648 ≤ v) (h2 : v < 2147483648) (k1 : -2147483648 ≤ h) (k2 : h < 2147483648) : XC d 145 [.ref c, .int (w v), .int (w h)] (mk S I L R G) Q ↔ Q (.inr 0) (mk S (wr I c (up (I c) 11 (w (ms + 1 : Nat)))) L R (G.1 + 1, G.2.1 + 6, G.2.2)) := by
  simp only [Int.natCast_add, Int.natCast_one]
  by_cases c1 : v < 0
  · simp (disch := omega) only [q_145_0, q_145_1, q_145_4, q_145_5, q_145_6, q_145_9, q_145_10, q_145_11, q_145_14, q_145_15, q_145_16, q_145_19, q_145_30, q_145_e, va_rf_s, bz_0, bz_1, bz_ok, bb_ok, Nat.add_assoc, w_lt, w_add, w_sub, w_mul, w_div, em_def, w_eq, w_inT, ↓ilt_t, ↓ilt_f, ↓ieq_t, ↓ieq_f, ntT, w_b, w_ix, kx_v, kx_n, kl_n, kl_i, kl_r, kl_o, inA_i, inA_s, inA_b, inA_z, inA_l, inA_0, inA_4, inA_5, inA_6, inA_7, inA_8, inA_9, inA_10, al_0, al_1, al_2, al_4, al_5, al_98, bsP_2, bsP_3, wr_same, wr_wr, wr_ne, up_same, up_ne, Nat.reduceAdd, Int.reduceAdd, Int.reduceSub, Int.reduceMul, Int.reduceLT, Int.reduceLE, Int.reduceEq, Int.reduceNeg, Int.reduceToNat, Nat.reduceLT, Nat.reduceLeDiff, Nat.reduceEqDiff, ↓reduceIte, true_and, and_true, not_true_eq_false, not_false_eq_true, eq_self, or_true, true_or, or_false, false_or, if_true, if_false, Int.toNat_natCast, w_ite, Nat.add_zero, reduceCtorEq, ne_eq, hc, hg]
  · simp (disch := omega) only [q_145_0, q_145_1, q_145_4, q_145_5, q_145_6, q_145_9, q_145_10, q_145_11, q_145_14, q_145_15, q_145_16, q_145_19, q_145_30, q_145_e, va_rf_s, bz_0, bz_1, bz_ok, bb_ok, Nat.add_assoc, w_lt, w_add, w_sub, w_mul, w_div, em_def, w_eq, w_inT, ↓ilt_t, ↓ilt_f, ↓ieq_t, ↓ieq_f, ntT, w_b, w_ix, kx_v, kx_n, kl_n, kl_i, kl_r, kl_o, inA_i, inA_s, inA_b, inA_z, inA_l, inA_0, inA_4, inA_5, inA_6, inA_7, inA_8, inA_9, inA_10, al_0, al_1, al_2, al_4, al_5, al_98, bsP_2, bsP_3, wr_same, wr_wr, wr_ne, up_same, up_ne, Nat.reduceAdd, Int.reduceAdd, Int.reduceSub, Int.reduceMul, Int.reduceLT, Int.reduceLE, Int.reduceEq, Int.reduceNeg, Int.reduceToNat, Nat.reduceLT, Nat.reduceLeDiff, Nat.reduceEqDiff, ↓reduceIte, true_and, and_true, not_true_eq_false, not_false_eq_true, eq_self, or_true, true_or, or_false, false_or, if_true, if_false, Int.toNat_natCast, w_ite, Nat.add_zero, reduceCtorEq, ne_eq, hc, hg]
theorem sp_143 {l : Nat} (hl : l < 2) (hc : S c = some (.inr 11)) : XC (d + 1) 143 [.ref c, .int (w l)] (mk S I L R G) Q ↔ Q (.inl none) (mk S I L R G) := by
  have s145 := fun {d : Nat} {Q : XO → Hp → Prop} => sp_145 (d := d) (Q := Q) (S := S) (I := I) (L := L) (R := R) (G := G) (c := c) (v := l) (h := 2) (by omega) (by omega) (by omega) (by decide) (by decide)
  simp (disch := omega) only [q_143_0, q_143_1, q_143_2, q_143_3, q_143_6, q_143_e, va_rf_s, bz_0, bz_1, bz_ok, bb_ok, Nat.add_assoc, w_lt, w_add, w_sub, w_mul, w_div, em_def, w_eq, w_inT, ↓ilt_t, ↓ilt_f, ↓ieq_t, ↓ieq_f, ntT, w_b, w_ix, kx_v, kx_n, kl_n, kl_i, kl_r, kl_o, inA_i, inA_s, inA_b, inA_z, inA_l, inA_0, inA_4, inA_5, inA_6, inA_7, inA_8, inA_9, inA_10, al_0, al_1, al_2, al_4, al_5, al_98, bsP_2, bsP_3, wr_same, wr_wr, wr_ne, up_same, up_ne, Nat.reduceAdd, Int.reduceAdd, Int.reduceSub, Int.reduceMul, Int.reduceLT, Int.reduceLE, Int.reduceEq, Int.reduceNeg, Int.reduceToNat, Nat.reduceLT, Nat.reduceLeDiff, Nat.reduceEqDiff, ↓reduceIte, true_and, and_true, not_true_eq_false, not_false_eq_true, eq_self, or_true, true_or, or_false, false_or, if_true, if_false, Int.toNat_natCast, w_ite, Nat.add_zero, reduceCtorEq, ne_eq, hc, s145]
theorem sp_143x {v : Int} {ms : Nat} (hc : S c = some (.inr 11)) (hg : I c 11 = w ms) (hv : v < 0 ∨ 2 ≤ v) (h1 : -2147483648 ≤ v) (h2 : v < 2147483648) : XC (d + 1) 143 [.ref c, .int (w v)] (mk S I L R G) Q ↔ Q (.inr 0) (mk S (wr I c (up (I c) 11 (w (ms + 1 : Nat)))) L R (G.1 + 1, G.2.1 + 6, G.2.2)) := by
  have s145 := fun {d : Nat} {Q : XO → Hp → Prop} => sp_145x (d := d) (Q := Q) (S := S) (I := I) (L := L) (R := R) (G := G) (c := c) (v := v) (h := 2) hc hg hv h1 h2 (by decide) (by decide)
  have ht : t_han 143 = [] := rfl
  simp (disch := omega) only [q_143_0, q_143_1, q_143_2, q_143_3, q_143_6, q_143_e, va_rf_s, bz_0, bz_1, bz_ok, bb_ok, Nat.add_assoc, w_lt, w_add, w_sub, w_mul, w_div, em_def, w_eq, w_inT, ↓ilt_t, ↓ilt_f, ↓ieq_t, ↓ieq_f, ntT, w_b, w_ix, kx_v, kx_n, kl_n, kl_i, kl_r, kl_o, inA_i, inA_s, inA_b, inA_z, inA_l, inA_0, inA_4, inA_5, inA_6, inA_7, inA_8, inA_9, inA_10, al_0, al_1, al_2, al_4, al_5, al_98, bsP_2, bsP_3, wr_same, wr_wr, wr_ne, up_same, up_ne, Nat.reduceAdd, Int.reduceAdd, Int.reduceSub, Int.reduceMul, Int.reduceLT, Int.reduceLE, Int.reduceEq, Int.reduceNeg, Int.reduceToNat, Nat.reduceLT, Nat.reduceLeDiff, Nat.reduceEqDiff, ↓reduceIte, true_and, and_true, not_true_eq_false, not_false_eq_true, eq_self, or_true, true_or, or_false, false_or, if_true, if_false, Int.toNat_natCast, w_ite, Nat.add_zero, reduceCtorEq, ne_eq, hc, s145, kx_t ht]
theorem sp_141 {l : Nat} (hl : l < 2) (hc : S c = some (.inr 11)) : XC d 141 [.ref c, .int (w l)] (mk S I L R G) Q ↔ Q (.inl (some (.ref (c + 51 + 20 * l)))) (mk S I L R G) := by
  have : l = 0 ∨ l = 1 := by omega
  rcases this with rfl | rfl
  · simp (disch := omega) only [q_141_0, q_141_1, q_141_4, q_141_5, q_141_8, q_141_11, q_141_12, q_141_15, q_141_e, va_rf_s, bz_0, bz_1, bz_ok, bb_ok, Nat.add_assoc, w_lt, w_add, w_sub, w_mul, w_div, em_def, w_eq, w_inT, ↓ilt_t, ↓ilt_f, ↓ieq_t, ↓ieq_f, ntT, w_b, w_ix, kx_v, kx_n, kl_n, kl_i, kl_r, kl_o, inA_i, inA_s, inA_b, inA_z, inA_l, inA_0, inA_4, inA_5, inA_6, inA_7, inA_8, inA_9, inA_10, al_0, al_1, al_2, al_4, al_5, al_98, bsP_2, bsP_3, wr_same, wr_wr, wr_ne, up_same, up_ne, Nat.reduceAdd, Int.reduceAdd, Int.reduceSub, Int.reduceMul, Int.reduceLT, Int.reduceLE, Int.reduceEq, Int.reduceNeg, Int.reduceToNat, Nat.reduceLT, Nat.reduceLeDiff, Nat.reduceEqDiff, ↓reduceIte, true_and, and_true, not_true_eq_false, not_false_eq_true, eq_self, or_true, true_or, or_false, false_or, if_true, if_false, Int.toNat_natCast, w_ite, Nat.add_zero, reduceCtorEq, ne_eq, hc]
  · simp (disch := omega) only [q_141_0, q_141_1, q_141_4, q_141_5, q_141_8, q_141_11, q_141_12, q_141_15, q_141_e, va_rf_s, bz_0, bz_1, bz_ok, bb_ok, Nat.add_assoc, w_lt, w_add, w_sub, w_mul, w_div, em_def, w_eq, w_inT, ↓ilt_t, ↓ilt_f, ↓ieq_t, ↓ieq_f, ntT, w_b, w_ix, kx_v, kx_n, kl_n, kl_i, kl_r, kl_o, inA_i, inA_s, inA_b, inA_z, inA_l, inA_0, inA_4, inA_5, inA_6, inA_7, inA_8, inA_9, inA_10, al_0, al_1, al_2, al_4, al_5, al_98, bsP_2, bsP_3, wr_same, wr_wr, wr_ne, up_same, up_ne, Nat.reduceAdd, Int.reduceAdd, Int.reduceSub, Int.reduceMul, Int.reduceLT, Int.reduceLE, Int.reduceEq, Int.reduceNeg, Int.reduceToNat, Nat.reduceLT, Nat.reduceLeDiff, Nat.reduceEqDiff, ↓reduceIte, true_and, and_true, not_true_eq_false, not_false_eq_true, eq_self, or_true, true_or, or_false, false_or, if_true, if_false, Int.toNat_natCast, w_ite, Nat.add_zero, reduceCtorEq, ne_eq, hc]
theorem sp_142 {l : Nat} (hl : l < 2) (hc : S c = some (.inr 11)) (hk : S (c + 51 + 20 * l) = some (.inr 5)) : XC d 142 [.ref c, .int (w l)] (mk S I L R G) Q ↔ Q (.inl (some (.ref (c + 51 + 20 * l + 1)))) (mk S I L R G) := by
  have : l = 0 ∨ l = 1 := by omega
  rcases this with rfl | rfl
  · have hk : S (c + 51) = some (.inr 5) := hk
    simp (disch := omega) only [q_142_0, q_142_1, q_142_4, q_142_5, q_142_8, q_142_11, q_142_14, q_142_15, q_142_18, q_142_21, q_142_e, va_rf_s, bz_0, bz_1, bz_ok, bb_ok, Nat.add_assoc, w_lt, w_add, w_sub, w_mul, w_div, em_def, w_eq, w_inT, ↓ilt_t, ↓ilt_f, ↓ieq_t, ↓ieq_f, ntT, w_b, w_ix, kx_v, kx_n, kl_n, kl_i, kl_r, kl_o, inA_i, inA_s, inA_b, inA_z, inA_l, inA_0, inA_4, inA_5, inA_6, inA_7, inA_8, inA_9, inA_10, al_0, al_1, al_2, al_4, al_5, al_98, bsP_2, bsP_3, wr_same, wr_wr, wr_ne, up_same, up_ne, Nat.reduceAdd, Int.reduceAdd, Int.reduceSub, Int.reduceMul, Int.reduceLT, Int.reduceLE, Int.reduceEq, Int.reduceNeg, Int.reduceToNat, Nat.reduceLT, Nat.reduceLeDiff, Nat.reduceEqDiff, ↓reduceIte, true_and, and_true, not_true_eq_false, not_false_eq_true, eq_self, or_true, true_or, or_false, false_or, if_true, if_false, Int.toNat_natCast, w_ite, Nat.add_zero, reduceCtorEq, ne_eq, hc, hk]
  · have hk : S (c + 71) = some (.inr 5) := hk
    simp (disch := omega) only [q_142_0, q_142_1, q_142_4, q_142_5, q_142_8, q_142_11, q_142_14, q_142_15, q_142_18, q_142_21, q_142_e, va_rf_s, bz_0, bz_1, bz_ok, bb_ok, Nat.add_assoc, w_lt, w_add, w_sub, w_mul, w_div, em_def, w_eq, w_inT, ↓ilt_t, ↓ilt_f, ↓ieq_t, ↓ieq_f, ntT, w_b, w_ix, kx_v, kx_n, kl_n, kl_i, kl_r, kl_o, inA_i, inA_s, inA_b, inA_z, inA_l, inA_0, inA_4, inA_5, inA_6, inA_7, inA_8, inA_9, inA_10, al_0, al_1, al_2, al_4, al_5, al_98, bsP_2, bsP_3, wr_same, wr_wr, wr_ne, up_same, up_ne, Nat.reduceAdd, Int.reduceAdd, Int.reduceSub, Int.reduceMul, Int.reduceLT, Int.reduceLE, Int.reduceEq, Int.reduceNeg, Int.reduceToNat, Nat.reduceLT, Nat.reduceLeDiff, Nat.reduceEqDiff, ↓reduceIte, true_and, and_true, not_true_eq_false, not_false_eq_true, eq_self, or_true, true_or, or_false, false_or, if_true, if_false, Int.toNat_natCast, w_ite, Nat.add_zero, reduceCtorEq, ne_eq, hc, hk]
end

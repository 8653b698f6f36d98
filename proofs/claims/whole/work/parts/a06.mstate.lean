/-! the model's state; its calls of one number -/
def bgn (rs : List Rl) : Nat → Nat
  | 0 => 0
  | n + 1 => bgn rs n + (match T rs n with | none => 0 | some t => t.length)
def LdN (I : MI) (m : Nat) (rs : List Rl) (n : Nat) : Prop := I (m + 6578) n = w (bgn rs n) ∧ (T rs n = none → I (m + 6579) n = w (-1)) ∧ ∀ t, T rs n = some t → I (m + 6579) n = w t.length ∧ Txt (I (m + 6577)) (bgn rs n) t
def LdA (I : MI) (m : Nat) (rs : List Rl) (h : Nat) : Prop := ∀ n, n ≤ h → LdN I m rs n
def LdM (I : MI) (m : Nat) (k : Bk) : Prop := I m 22 = w (-1) ∨ ∃ l : Nat, l < 2 ∧ I m 22 = w l ∧ LdA I m (k.2 l) k.1
def HiM (I : MI) (m : Nat) (hi : List Bk) : Prop := I m 14 = w hi.length ∧ hi.length ≤ 12 ∧ ∀ j, j < hi.length → I (m + 4) (hi.length - 1 - j) = w (hi.getD j bk0).1 ∧ (1 ≤ (hi.getD j bk0).1 ∧ (hi.getD j bk0).1 ≤ 1000) ∧ ∀ l, l < 2 → RsM I m (3 + 2 * (hi.length - 1 - j) + l) ((hi.getD j bk0).2 l)
/-- the model holds what the class holds -/
def MS (S : SH) (I : MI) (R : MR) (G : MG) (m : Nat) (s : St) : Prop :=
  MLay S R m ∧ m + 6678 ≤ G.1 ∧ (I (m + 1) 0 = w s.2.2.2.2.1 ∧ I (m + 1) 1 = w s.2.2.2.2.2 ∧ s.2.2.2.2.1 ≤ 1000000 ∧ s.2.2.2.2.2 ≤ 1000000) ∧ (I m 2 = w s.1.length ∧ s.1.length ≤ 400 ∧ Txt (I (m + 2)) 0 s.1 ∧ ∀ b ∈ s.1, 0 ≤ b ∧ b < 256) ∧ I m 5 = w s.2.2.2.1 ∧ (I m 13 = w s.2.1.1 ∧ 1 ≤ s.2.1.1 ∧ s.2.1.1 ≤ 1000) ∧ (∀ l, l < 2 → RsM I m l (s.2.1.2 l)) ∧ HiM I m s.2.2.1 ∧ LdM I m s.2.1
def MFr (I : MI) (L : ML) (I' : MI) (L' : ML) (m : Nat) : Prop := ∀ a, (a < m ∨ m + 6678 ≤ a) → I' a = I a ∧ L' a = L a
/-- how a refusal is told: by place in the method's own row -/
def tcode (two : Bool) (E : Nat) : Int := if E = 0 then 1 else if two = true then 2 else 1
def MA (I' : MI) (m : Nat) (two : Bool) (r : Int ⊕ Nat) (o : Int32) : Prop := match r with
  | .inl v => o = w v ∧ I' m 0 = w 0
  | .inr E => o = w 0 ∧ I' m 0 = w (tcode two E)
def MK (S : SH) (I : MI) (L : ML) (R : MR) (G : MG) (m : Nat) (Q : XO → Hp → Prop) (two : Bool) (r : Res) : Prop := ∀ (I' : MI) (L' : ML) (o : Int32), MS S I' R G m r.2 → MFr I L I' L' m → MA I' m two r.1 o → Q (.inl (some (.int o))) (mk S I' L' R G)
section
variable {S : SH} {I I' I2 : MI} {L L' L2 : ML} {R : MR} {G : MG} {m : Nat} {s : St} {Q : XO → Hp → Prop} {two : Bool}
theorem MFr.refl : MFr I L I L m := fun _ _ => ⟨rfl, rfl⟩
theorem MFr.trans (h : MFr I L I' L' m) (h' : MFr I' L' I2 L2 m) : MFr I L I2 L2 m := fun a ha => ⟨(h' a ha).1.trans (h a ha).1, (h' a ha).2.trans (h a ha).2⟩
theorem LdM.keep {k : Bk} (h : LdM I m k) (e0 : I' m 22 = I m 22) (e1 : I' (m + 6577) = I (m + 6577)) (e2 : I' (m + 6578) = I (m + 6578)) (e3 : I' (m + 6579) = I (m + 6579)) : LdM I' m k := by
  rcases h with h | ⟨l, h1, h2, h3⟩
  · exact Or.inl (by rw [e0]; exact h)
  · refine Or.inr ⟨l, h1, by rw [e0]; exact h2, fun n hn => ?_⟩
    have := h3 n hn
    unfold LdN at this ⊢
    rw [e1, e2, e3]
    exact this
theorem HiM.keep {hi : List Bk} (h : HiM I m hi) (e0 : I' m 14 = I m 14) (e1 : ∀ a, a ≠ m → m + 3 ≤ a → a < m + 6541 → I' a = I a) : HiM I' m hi := by
  obtain ⟨h1, h2, h3⟩ := h
  refine ⟨by rw [e0]; exact h1, h2, fun j hj => ?_⟩
  obtain ⟨a1, a2, a3⟩ := h3 j hj
  exact ⟨by rw [e1 _ (by omega) (by omega) (by omega)]; exact a1, a2, fun l hl => (a3 l hl).congr (by omega) (fun a b1 b2 => e1 a (by omega) b1 b2)⟩
/-- only what is laid aside changes -/
theorem MS.sc (h : MS S I R G m s) (e1 : ∀ a, a ≠ m → a < m + 6541 → I' a = I a) (e2 : ∀ j, 1 ≤ j → j ≤ 14 → I' m j = I m j) (e3 : LdM I' m s.2.1) : MS S I' R G m s := by
  obtain ⟨a1, a2, a3, a4, a5, a6, a7, a8, a9⟩ := h
  refine ⟨a1, a2, ?_, ?_, by rw [e2 5 (by decide) (by decide)]; exact a5, by rw [e2 13 (by decide) (by decide)]; exact a6, fun l hl => (a7 l hl).congr (by omega) (fun a b1 b2 => e1 a (by omega) b2), a8.keep (e2 14 (by decide) (by decide)) (fun a b0 b1 b2 => e1 a b0 b2), e3⟩
  · rw [e1 _ (by omega) (by omega)]; exact a3
  · rw [e1 (m + 2) (by omega) (by omega), e2 2 (by decide) (by decide)]; exact a4
theorem MS.sa (h : MS S I R G m s) (hF : SaF I I' m) : MS S I' R G m s := by
  have hl := h.2.2.2.2.2.2.2.2
  exact h.sc (fun a a1 a2 => hF.1 a a1 (by omega)) (fun j j1 j2 => hF.2 j (by omega)) (hl.keep (hF.2 22 (by omega)) (hF.1 _ (by omega) (by omega)) (hF.1 _ (by omega) (by omega)) (hF.1 _ (by omega) (by omega)))
theorem SaF.mfr (hF : SaF I I' m) : MFr I L I' L m := fun a ha => ⟨hF.1 a (by omega) (by omega), rfl⟩
theorem MS.t0 (h : MS S I R G m s) {x : Int32} : MS S (wr I m (up (I m) 0 x)) R G m s := by
  have hl := h.2.2.2.2.2.2.2.2
  exact h.sc (fun a a1 a2 => wr_ne a1) (fun j j1 j2 => by rw [wr_same, up_ne (by omega)]) (hl.keep (by rw [wr_same, up_ne (by decide)]) (wr_ne (by omega)) (wr_ne (by omega)) (wr_ne (by omega)))
theorem MFr.t0 {x : Int32} : MFr I L (wr I m (up (I m) 0 x)) L m := fun a ha => ⟨wr_ne (by omega), rfl⟩
theorem MK.ans {v : Int} (h : MS S I' R G m s) (h0 : I' m 0 = w 0) (hf : MFr I L I' L' m) (hk : MK S I L R G m Q two (.inl v, s)) : Q (.inl (some (.int (w v)))) (mk S I' L' R G) := hk I' L' (w v) h hf ⟨rfl, h0⟩
theorem MS.cnt0 (h : MS S I R G m s) (hm : s.2.2.2.2.1 < 1000000) {e : Int} : MS S (wr (wr I m (up (I m) 0 (w e))) (m + 1) (up (I (m + 1)) 0 (w ((s.2.2.2.2.1 : Int) + 1)))) R G m (miss s) := by
  obtain ⟨a1, a2, a3, a4, a5, a6, a7, a8, a9⟩ := h.t0 (x := w e)
  have e1 : ∀ a, a ≠ m + 1 → wr (wr I m (up (I m) 0 (w e))) (m + 1) (up (I (m + 1)) 0 (w ((s.2.2.2.2.1 : Int) + 1))) a = wr I m (up (I m) 0 (w e)) a := fun a ha => wr_ne ha
  have e2 : wr (wr I m (up (I m) 0 (w e))) (m + 1) (up (I (m + 1)) 0 (w ((s.2.2.2.2.1 : Int) + 1))) (m + 1) = up (I (m + 1)) 0 (w ((s.2.2.2.2.1 : Int) + 1)) := wr_same
  rw [wr_ne (show m + 1 ≠ m by omega)] at a3
  refine ⟨a1, a2, ?_, ?_, by rw [e1 _ (by omega)]; exact a5, by rw [e1 _ (by omega)]; exact a6, fun l hl => (a7 l hl).congr (by omega) (fun a b1 b2 => e1 a (by omega)), a8.keep (by rw [e1 _ (by omega)]) (fun a b0 b1 b2 => e1 a (by omega)), a9.keep (by rw [e1 _ (by omega)]) (e1 _ (by omega)) (e1 _ (by omega)) (e1 _ (by omega))⟩
  · rw [e2]
    refine ⟨up_same, by rw [up_ne (by decide)]; exact a3.2.1, ?_, a3.2.2.2⟩
    show s.2.2.2.2.1 + 1 ≤ 1000000
    omega
  · rw [e1 _ (by omega), e1 _ (by omega)]; exact a4
theorem MS.cnt1 (h : MS S I R G m s) (hm : s.2.2.2.2.2 < 1000000) {e : Int} : MS S (wr (wr I m (up (I m) 0 (w e))) (m + 1) (up (I (m + 1)) 1 (w ((s.2.2.2.2.2 : Int) + 1)))) R G m (wron s) := by
  obtain ⟨a1, a2, a3, a4, a5, a6, a7, a8, a9⟩ := h.t0 (x := w e)
  have e1 : ∀ a, a ≠ m + 1 → wr (wr I m (up (I m) 0 (w e))) (m + 1) (up (I (m + 1)) 1 (w ((s.2.2.2.2.2 : Int) + 1))) a = wr I m (up (I m) 0 (w e)) a := fun a ha => wr_ne ha
  have e2 : wr (wr I m (up (I m) 0 (w e))) (m + 1) (up (I (m + 1)) 1 (w ((s.2.2.2.2.2 : Int) + 1))) (m + 1) = up (I (m + 1)) 1 (w ((s.2.2.2.2.2 : Int) + 1)) := wr_same
  rw [wr_ne (show m + 1 ≠ m by omega)] at a3
  refine ⟨a1, a2, ?_, ?_, by rw [e1 _ (by omega)]; exact a5, by rw [e1 _ (by omega)]; exact a6, fun l hl => (a7 l hl).congr (by omega) (fun a b1 b2 => e1 a (by omega)), a8.keep (by rw [e1 _ (by omega)]) (fun a b0 b1 b2 => e1 a (by omega)), a9.keep (by rw [e1 _ (by omega)]) (e1 _ (by omega)) (e1 _ (by omega)) (e1 _ (by omega))⟩
  · rw [e2]
    refine ⟨by rw [up_ne (by decide)]; exact a3.1, up_same, a3.2.2.1, ?_⟩
    show s.2.2.2.2.2 + 1 ≤ 1000000
    omega
  · rw [e1 _ (by omega), e1 _ (by omega)]; exact a4
end
section
variable {d : Nat} {Q : XO → Hp → Prop} {S : SH} {I : MI} {L : ML} {R : MR} {G : MG} {A : Hp}
variable {m : Nat} {s : St} {two : Bool} {I1 : MI} {L1 : ML}
/-- what a call begins with -/
theorem MS.st (h : MS S I R G m s) : ∃ I1 : MI, wr I m (up (I m) 0 (w 0)) = I1 ∧ MS S I1 R G m s ∧ I1 m 0 = w 0 ∧ MFr I L I1 L m := ⟨_, rfl, h.t0, by rw [wr_same, up_same], MFr.t0⟩
theorem MK.mis (h : MS S I1 R G m s) (hf : few s) (hF : MFr I L I1 L1 m) (hk : MK S I L R G m Q two (rMiss s)) : Q (.inl (some (.int (w 0)))) (mk S (wr (wr I1 m (up (I1 m) 0 (w 1))) (m + 1) (up (I1 (m + 1)) 0 (w ((s.2.2.2.2.1 : Int) + 1)))) L1 R G) := by
  refine hk _ L1 (w 0) (h.cnt0 hf.1) (fun a ha => ⟨?_, (hF a ha).2⟩) ⟨rfl, ?_⟩
  · rw [wr_ne (by omega), wr_ne (by omega)]; exact (hF a ha).1
  · rw [wr_ne (by omega), wr_same, up_same]; rfl
theorem MK.wro {e : Int} (h : MS S I1 R G m s) (hf : few s) (hF : MFr I L I1 L1 m) (he : e = if two = true then 2 else 1) (hk : MK S I L R G m Q two (rWron s)) : Q (.inl (some (.int (w 0)))) (mk S (wr (wr I1 m (up (I1 m) 0 (w e))) (m + 1) (up (I1 (m + 1)) 1 (w ((s.2.2.2.2.2 : Int) + 1)))) L1 R G) := by
  refine hk _ L1 (w 0) (h.cnt1 hf.2) (fun a ha => ⟨?_, (hF a ha).2⟩) ⟨rfl, ?_⟩
  · rw [wr_ne (by omega), wr_ne (by omega)]; exact (hF a ha).1
  · rw [wr_ne (by omega), wr_same, up_same, he]; rfl
theorem MS.b00 (h : MS S I1 R G m s) (h0 : I1 m 0 = w 0) {e r : Int32} : XC d 154 [.ref m, .int (w 0), .int e, .int r] (mk S I1 L R G) Q ↔ Q (.inl (some (.int (w 0)))) (mk S I1 L R G) := sp_154_0 h.1.1 h0
theorem MS.b10 (h : MS S I1 R G m s) (h0 : I1 m 0 = w 0) {e : Int} (he : e = 1 ∨ e = 2) : XC d 154 [.ref m, .int (w 1), .int (w e), .int (w 0)] (mk S I1 L R G) Q ↔ Q (.inl (some (.int (w 1)))) (mk S (wr (wr I1 m (up (I1 m) 0 (w e))) (m + 1) (up (I1 (m + 1)) 0 (w ((s.2.2.2.2.1 : Int) + 1)))) L R G) := sp_154_1 (r := 0) h.1 h0 he (by decide) h.2.2.1.1
theorem MS.b11 (h : MS S I1 R G m s) (h0 : I1 m 0 = w 0) {e : Int} (he : e = 1 ∨ e = 2) : XC d 154 [.ref m, .int (w 1), .int (w e), .int (w 1)] (mk S I1 L R G) Q ↔ Q (.inl (some (.int (w 1)))) (mk S (wr (wr I1 m (up (I1 m) 0 (w e))) (m + 1) (up (I1 (m + 1)) 1 (w ((s.2.2.2.2.2 : Int) + 1)))) L R G) := sp_154_1 (r := 1) h.1 h0 he (by decide) h.2.2.1.2.1
theorem sp_178 (h : MS S I R G m s) (hQ : MK S I L R G m Q two (.inl s.2.2.2.1, s)) : XC d 178 [.ref m] (mk S I L R G) Q := by
  have hm := h.1.1
  obtain ⟨I1, e, h1, h0, hF⟩ := h.st (L := L)
  have e5 := h1.2.2.2.2.1
  simp (disch := omega) only [q_178_0, q_178_1, q_178_2, q_178_6, q_178_9, q_178_e, va_rf_s, bz_0, bz_1, bz_ok, bb_ok, Nat.add_assoc, w_lt, w_add, w_sub, w_mul, w_div, em_def, w_eq, w_inT, ↓ilt_t, ↓ilt_f, ↓ieq_t, ↓ieq_f, ntT, w_b, w_ix, kx_v, kx_n, kl_n, kl_i, kl_r, kl_o, inA_i, inA_s, inA_b, inA_z, inA_l, inA_0, inA_4, inA_5, inA_6, inA_7, inA_8, inA_9, inA_10, al_0, al_1, al_2, al_4, al_5, al_98, bsP_2, bsP_3, wr_same, wr_wr, wr_ne, up_same, up_ne, Nat.reduceAdd, Int.reduceAdd, Int.reduceSub, Int.reduceMul, Int.reduceLT, Int.reduceLE, Int.reduceEq, Int.reduceNeg, Int.reduceToNat, Nat.reduceLT, Nat.reduceLeDiff, Nat.reduceEqDiff, ↓reduceIte, true_and, and_true, not_true_eq_false, not_false_eq_true, eq_self, or_true, true_or, or_false, false_or, if_true, if_false, Int.toNat_natCast, w_ite, Nat.add_zero, reduceCtorEq, ne_eq, hm]
  rw [e]
  rw [q_178_5]
  simp (disch := omega) only [q_178_0, q_178_1, q_178_2, q_178_6, q_178_9, q_178_e, va_rf_s, bz_0, bz_1, bz_ok, bb_ok, Nat.add_assoc, w_lt, w_add, w_sub, w_mul, w_div, em_def, w_eq, w_inT, ↓ilt_t, ↓ilt_f, ↓ieq_t, ↓ieq_f, ntT, w_b, w_ix, kx_v, kx_n, kl_n, kl_i, kl_r, kl_o, inA_i, inA_s, inA_b, inA_z, inA_l, inA_0, inA_4, inA_5, inA_6, inA_7, inA_8, inA_9, inA_10, al_0, al_1, al_2, al_4, al_5, al_98, bsP_2, bsP_3, wr_same, wr_wr, wr_ne, up_same, up_ne, Nat.reduceAdd, Int.reduceAdd, Int.reduceSub, Int.reduceMul, Int.reduceLT, Int.reduceLE, Int.reduceEq, Int.reduceNeg, Int.reduceToNat, Nat.reduceLT, Nat.reduceLeDiff, Nat.reduceEqDiff, ↓reduceIte, true_and, and_true, not_true_eq_false, not_false_eq_true, eq_self, or_true, true_or, or_false, false_or, if_true, if_false, Int.toNat_natCast, w_ite, Nat.add_zero, reduceCtorEq, ne_eq, hm, e5]
  exact hQ.ans h1 h0 hF
theorem sp_239 {x : Int} (h : MS S I R G m s) (hx : B32 x) (hQ : MK S I L R G m Q two (rStatus s x)) : XC (d + 1) 239 [.ref m, .int (w x)] (mk S I L R G) Q := by
  have hm := h.1.1
  obtain ⟨I1, e, h1, h0, hF⟩ := h.st (L := L)
  obtain ⟨c1, c2, -⟩ := h1.2.2.1
  have hS1 := h.1.2.1
  have s155 := fun {d : Nat} {Q : XO → Hp → Prop} {A : Hp} => sp_155 (d := d) (Q := Q) (A := A) (v := x) (a := 0) (b := 1) hx.1 hx.2 (by decide) (by decide) (by decide) (by decide)
  unfold rStatus at hQ
  simp (disch := omega) only [q_239_0, q_239_1, q_239_2, q_239_6, q_239_7, q_239_8, q_239_11, q_239_14, q_239_15, q_239_18, q_239_19, q_239_20, q_239_23, q_239_24, q_239_e, va_rf_s, bz_0, bz_1, bz_ok, bb_ok, Nat.add_assoc, w_lt, w_add, w_sub, w_mul, w_div, em_def, w_eq, w_inT, ↓ilt_t, ↓ilt_f, ↓ieq_t, ↓ieq_f, ntT, w_b, w_ix, kx_v, kx_n, kl_n, kl_i, kl_r, kl_o, inA_i, inA_s, inA_b, inA_z, inA_l, inA_0, inA_4, inA_5, inA_6, inA_7, inA_8, inA_9, inA_10, al_0, al_1, al_2, al_4, al_5, al_98, bsP_2, bsP_3, wr_same, wr_wr, wr_ne, up_same, up_ne, Nat.reduceAdd, Int.reduceAdd, Int.reduceSub, Int.reduceMul, Int.reduceLT, Int.reduceLE, Int.reduceEq, Int.reduceNeg, Int.reduceToNat, Nat.reduceLT, Nat.reduceLeDiff, Nat.reduceEqDiff, ↓reduceIte, true_and, and_true, not_true_eq_false, not_false_eq_true, eq_self, or_true, true_or, or_false, false_or, if_true, if_false, Int.toNat_natCast, w_ite, Nat.add_zero, reduceCtorEq, ne_eq, hm]
  rw [e]
  rw [q_239_5]
  by_cases c : x = 0
  · subst c
    simp (disch := omega) only [q_239_0, q_239_1, q_239_2, q_239_6, q_239_7, q_239_8, q_239_11, q_239_14, q_239_15, q_239_18, q_239_19, q_239_20, q_239_23, q_239_24, q_239_e, va_rf_s, bz_0, bz_1, bz_ok, bb_ok, Nat.add_assoc, w_lt, w_add, w_sub, w_mul, w_div, em_def, w_eq, w_inT, ↓ilt_t, ↓ilt_f, ↓ieq_t, ↓ieq_f, ntT, w_b, w_ix, kx_v, kx_n, kl_n, kl_i, kl_r, kl_o, inA_i, inA_s, inA_b, inA_z, inA_l, inA_0, inA_4, inA_5, inA_6, inA_7, inA_8, inA_9, inA_10, al_0, al_1, al_2, al_4, al_5, al_98, bsP_2, bsP_3, wr_same, wr_wr, wr_ne, up_same, up_ne, Nat.reduceAdd, Int.reduceAdd, Int.reduceSub, Int.reduceMul, Int.reduceLT, Int.reduceLE, Int.reduceEq, Int.reduceNeg, Int.reduceToNat, Nat.reduceLT, Nat.reduceLeDiff, Nat.reduceEqDiff, ↓reduceIte, true_and, and_true, not_true_eq_false, not_false_eq_true, eq_self, or_true, true_or, or_false, false_or, if_true, if_false, Int.toNat_natCast, w_ite, Nat.add_zero, reduceCtorEq, ne_eq, hm, s155, hS1, c1, decide_true, Bool.and_self, Int.reduceLE]
    exact hQ.ans h1 h0 hF
  · by_cases c' : x = 1
    · subst c'
      simp (disch := omega) only [q_239_0, q_239_1, q_239_2, q_239_6, q_239_7, q_239_8, q_239_11, q_239_14, q_239_15, q_239_18, q_239_19, q_239_20, q_239_23, q_239_24, q_239_e, va_rf_s, bz_0, bz_1, bz_ok, bb_ok, Nat.add_assoc, w_lt, w_add, w_sub, w_mul, w_div, em_def, w_eq, w_inT, ↓ilt_t, ↓ilt_f, ↓ieq_t, ↓ieq_f, ntT, w_b, w_ix, kx_v, kx_n, kl_n, kl_i, kl_r, kl_o, inA_i, inA_s, inA_b, inA_z, inA_l, inA_0, inA_4, inA_5, inA_6, inA_7, inA_8, inA_9, inA_10, al_0, al_1, al_2, al_4, al_5, al_98, bsP_2, bsP_3, wr_same, wr_wr, wr_ne, up_same, up_ne, Nat.reduceAdd, Int.reduceAdd, Int.reduceSub, Int.reduceMul, Int.reduceLT, Int.reduceLE, Int.reduceEq, Int.reduceNeg, Int.reduceToNat, Nat.reduceLT, Nat.reduceLeDiff, Nat.reduceEqDiff, ↓reduceIte, true_and, and_true, not_true_eq_false, not_false_eq_true, eq_self, or_true, true_or, or_false, false_or, if_true, if_false, Int.toNat_natCast, w_ite, Nat.add_zero, reduceCtorEq, ne_eq, hm, s155, hS1, c2, decide_true, Bool.and_self, Int.reduceLE]
      exact hQ.ans h1 h0 hF
    · have e2 : (decide (0 ≤ x) && decide (x ≤ 1)) = false := by
        rw [Bool.and_eq_false_iff, decide_eq_false_iff_not, decide_eq_false_iff_not]; omega
      simp (disch := omega) only [q_239_0, q_239_1, q_239_2, q_239_6, q_239_7, q_239_8, q_239_11, q_239_14, q_239_15, q_239_18, q_239_19, q_239_20, q_239_23, q_239_24, q_239_e, va_rf_s, bz_0, bz_1, bz_ok, bb_ok, Nat.add_assoc, w_lt, w_add, w_sub, w_mul, w_div, em_def, w_eq, w_inT, ↓ilt_t, ↓ilt_f, ↓ieq_t, ↓ieq_f, ntT, w_b, w_ix, kx_v, kx_n, kl_n, kl_i, kl_r, kl_o, inA_i, inA_s, inA_b, inA_z, inA_l, inA_0, inA_4, inA_5, inA_6, inA_7, inA_8, inA_9, inA_10, al_0, al_1, al_2, al_4, al_5, al_98, bsP_2, bsP_3, wr_same, wr_wr, wr_ne, up_same, up_ne, Nat.reduceAdd, Int.reduceAdd, Int.reduceSub, Int.reduceMul, Int.reduceLT, Int.reduceLE, Int.reduceEq, Int.reduceNeg, Int.reduceToNat, Nat.reduceLT, Nat.reduceLeDiff, Nat.reduceEqDiff, ↓reduceIte, true_and, and_true, not_true_eq_false, not_false_eq_true, eq_self, or_true, true_or, or_false, false_or, if_true, if_false, Int.toNat_natCast, w_ite, Nat.add_zero, reduceCtorEq, ne_eq, hm, s155, e2]
      rw [if_neg c, if_neg c'] at hQ
      exact hQ.ans h1 h0 hF
end

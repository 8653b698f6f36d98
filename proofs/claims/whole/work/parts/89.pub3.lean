/-! the class's calls of one number: said, at, asked, causes, cause -/
/-- a call of one language -/
def rLg (s : St) (l : Int) (f : List Rl → Int) : Res := if inL l then (.inl (f (rlz s l)), s) else rMiss s
/-- and with a choice -/
def rLx (s : St) (l x mx : Int) (f : List Rl → Int) : Res := if inL l then (if 0 ≤ x ∧ x ≤ mx then (.inl (f (rlz s l)), s) else rWron s) else rMiss s
def vSaid (rs : List Rl) (n x : Int) : Int := match T rs n with
  | none => -1
  | some t => if x = 0 then (t.length : Int) else if x = 1 then (if t.length = 0 then 0 else (t.length : Int) - nlet t + 1) else nlet t
def vAt (rs : List Rl) (n k : Int) : Int := match T rs n with
  | none => -1
  | some t => if 0 ≤ k ∧ k < t.length then t.getD k.toNat 0 else -1
def vAsked (rs : List Rl) (n : Int) : Int := match sd rs n with
  | none => -1
  | some x => x.2
def vCauses (rs : List Rl) (n : Int) : Int := (cs rs n).length
def vCause (rs : List Rl) (n k x : Int) : Int := if x = 0 then ((cs rs n).getD k.toNat c0).1 else if x = 1 then ((cs rs n).getD k.toNat c0).2.1 else if x = 2 then ((cs rs n).getD k.toNat c0).2.2.1 else ((cs rs n).getD k.toNat c0).2.2.2
def rCause (s : St) (l n k x : Int) : Res := if inL l ∧ 0 ≤ k ∧ k < (cs (rlz s l) n).length then (if 0 ≤ x ∧ x ≤ 3 then (.inl (vCause (rlz s l) n k x), s) else rWron s) else rMiss s
theorem T_sd {rs : List Rl} {n : Int} : T rs n = (sd rs n).map (fun x => x.1) := rfl
section
variable {d : Nat} {Q : XO → Hp → Prop} {S : SH} {I : MI} {L : ML} {R : MR} {G : MG} {A : Hp}
variable {c lo : Nat} {s : St}
/-- all that a language's calls need -/
def Lg (S : SH) (I : MI) (L : ML) (R : MR) (G : MG) (c lo : Nat) (s : St) (l : Int) (k : Nat) : Prop :=
  c + 51 ≤ k ∧ k + 20 ≤ c + 91 ∧ k = c + 51 + 20 * l.toNat ∧ RankS S k ∧ RsAt S I L R (k + 1) (rlz s l) ∧ MInv (rlz s l) I (k + 1) ∧ UInv (rlz s l) I (k + 1) ∧ RankOk (rlz s l) I k ∧ RsLo R (k + 1) lo (rlz s l) ∧ rsOk (rlz s l) ∧ (∀ i r, i < (rlz s l).length → R (k + 13) i = some r → c + 121 ≤ r) ∧ (∀ I' : MI, vp (rlz s l) I I' (k + 1) → Rem S I L R c s I' L) ∧
  (∀ (d : Nat) (Q : XO → Hp → Prop) (I : MI) (L : ML) (R : MR) (G : MG), XC d 141 [.ref c, .int (w l)] (mk S I L R G) Q ↔ Q (.inl (some (.ref k))) (mk S I L R G)) ∧ (∀ (d : Nat) (Q : XO → Hp → Prop) (I : MI) (L : ML) (R : MR) (G : MG), XC d 142 [.ref c, .int (w l)] (mk S I L R G) Q ↔ Q (.inl (some (.ref (k + 1)))) (mk S I L R G)) ∧ (∀ (d : Nat) (Q : XO → Hp → Prop) (I : MI) (L : ML) (R : MR) (G : MG), XC (d + 1) 143 [.ref c, .int (w l)] (mk S I L R G) Q ↔ Q (.inl none) (mk S I L R G))
variable {l : Int} {k : Nat}
theorem Lg.b1 (g : Lg S I L R G c lo s l k) : c + 51 ≤ k := g.1
theorem Lg.b2 (g : Lg S I L R G c lo s l k) : k + 20 ≤ c + 91 := g.2.1
theorem Lg.hk (g : Lg S I L R G c lo s l k) : k = c + 51 + 20 * l.toNat := g.2.2.1
theorem Lg.hK (g : Lg S I L R G c lo s l k) : RankS S k := g.2.2.2.1
theorem Lg.hR (g : Lg S I L R G c lo s l k) : RsAt S I L R (k + 1) (rlz s l) := g.2.2.2.2.1
theorem Lg.hM (g : Lg S I L R G c lo s l k) : MInv (rlz s l) I (k + 1) := g.2.2.2.2.2.1
theorem Lg.hU (g : Lg S I L R G c lo s l k) : UInv (rlz s l) I (k + 1) := g.2.2.2.2.2.2.1
theorem Lg.hO (g : Lg S I L R G c lo s l k) : RankOk (rlz s l) I k := g.2.2.2.2.2.2.2.1
theorem Lg.hl (g : Lg S I L R G c lo s l k) : RsLo R (k + 1) lo (rlz s l) := g.2.2.2.2.2.2.2.2.1
theorem Lg.ok (g : Lg S I L R G c lo s l k) : rsOk (rlz s l) := g.2.2.2.2.2.2.2.2.2.1
theorem Lg.far (g : Lg S I L R G c lo s l k) : ∀ i r, i < (rlz s l).length → R (k + 13) i = some r → c + 121 ≤ r := g.2.2.2.2.2.2.2.2.2.2.1
theorem Lg.vp (g : Lg S I L R G c lo s l k) : ∀ I' : MI, vp (rlz s l) I I' (k + 1) → Rem S I L R c s I' L := g.2.2.2.2.2.2.2.2.2.2.2.1
theorem Lg.p141 (g : Lg S I L R G c lo s l k) : ∀ {d : Nat} {Q : XO → Hp → Prop} {I : MI} {L : ML} {R : MR} {G : MG}, XC d 141 [.ref c, .int (w l)] (mk S I L R G) Q ↔ Q (.inl (some (.ref k))) (mk S I L R G) := fun {d Q I L R G} => g.2.2.2.2.2.2.2.2.2.2.2.2.1 d Q I L R G
theorem Lg.p142 (g : Lg S I L R G c lo s l k) : ∀ {d : Nat} {Q : XO → Hp → Prop} {I : MI} {L : ML} {R : MR} {G : MG}, XC d 142 [.ref c, .int (w l)] (mk S I L R G) Q ↔ Q (.inl (some (.ref (k + 1)))) (mk S I L R G) := fun {d Q I L R G} => g.2.2.2.2.2.2.2.2.2.2.2.2.2.1 d Q I L R G
theorem Lg.p143 (g : Lg S I L R G c lo s l k) : ∀ {d : Nat} {Q : XO → Hp → Prop} {I : MI} {L : ML} {R : MR} {G : MG}, XC (d + 1) 143 [.ref c, .int (w l)] (mk S I L R G) Q ↔ Q (.inl none) (mk S I L R G) := fun {d Q I L R G} => g.2.2.2.2.2.2.2.2.2.2.2.2.2.2 d Q I L R G
theorem CR.lg (h : CR S I L R G c lo s) {l : Int} (hl : inL l) : ∃ k, Lg S I L R G c lo s l k := by
  have hc := h.1.1
  have hm : l.toNat < 2 := by omega
  have el : l = (l.toNat : Int) := by omega
  obtain ⟨k1, ⟨k2, k3, k4, k5⟩, k6⟩ := h.rank hm
  have e : rlz s l = s.2.1.2 l.toNat := rfl
  have h30 := k2.2.1
  refine ⟨c + 51 + 20 * l.toNat, by omega, by omega, rfl, k1, k2, k3, k4, k5, k6.lo (I := I) (L := L) h30, k2.ok, fun i r hi hr => h.ruleFar hm i r hi hr, fun I' hp => CR.vp h hm hp, ?_, ?_, ?_⟩
  · intro d Q I L R G
    have := sp_141 (d := d) (Q := Q) (S := S) (I := I) (L := L) (R := R) (G := G) (c := c) hm hc
    rw [← el] at this
    exact this
  · intro d Q I L R G
    have := sp_142 (d := d) (Q := Q) (S := S) (I := I) (L := L) (R := R) (G := G) (c := c) hm hc k1.1
    rw [← el] at this
    exact this
  · intro d Q I L R G
    have := sp_143 (d := d) (Q := Q) (S := S) (I := I) (L := L) (R := R) (G := G) (c := c) hm hc
    rw [← el] at this
    exact this
theorem CR.lgk {I0 : MI} {L0 : ML} {R0 : MR} {G0 : MG} (h : CR S I L R G c lo s) (cl : inL l) (g0 : Lg S I0 L0 R0 G0 c lo s l k) : Lg S I L R G c lo s l k := by
  obtain ⟨k', g⟩ := h.lg cl
  have : k' = k := by rw [g.hk, g0.hk]
  rw [this] at g
  exact g
theorem CR.noL (h : CR S I L R G c lo s) {l : Int} (hl : B32 l) (hn : ¬ inL l) : XC (d + 1) 143 [.ref c, .int (w l)] (mk S I L R G) Q ↔ Q (.inr 0) (mk S (wr I c (up (I c) 11 (w (s.2.2.2.2.1 + 1 : Nat)))) L R (G.1 + 1, G.2.1 + 6, G.2.2)) :=
  sp_143x h.1.1 h.2.2.2.2.2.2.2.2.2.2.2.1 (by omega) hl.1 hl.2
theorem CR.in (_h : CR S I L R G c lo s) {x y z : Int} (hx : B32 x) (hy : B32 y) (hz : B32 z) (hn : y ≤ x ∧ x ≤ z) : XC d 146 [.ref c, .int (w x), .int (w y), .int (w z)] (mk S I L R G) Q ↔ Q (.inl none) (mk S I L R G) :=
  sp_146 hn hx.1 hx.2 hy.1 hy.2 hz.1 hz.2
theorem CR.noI (h : CR S I L R G c lo s) {x y z : Int} (hx : B32 x) (hy : B32 y) (hz : B32 z) (hn : ¬ (y ≤ x ∧ x ≤ z)) : XC d 146 [.ref c, .int (w x), .int (w y), .int (w z)] (mk S I L R G) Q ↔ Q (.inr 1) (mk S (wr I c (up (I c) 12 (w (s.2.2.2.2.2 + 1 : Nat)))) L R (G.1 + 1, G.2.1 + 6, G.2.2)) :=
  sp_146x h.1.1 h.2.2.2.2.2.2.2.2.2.2.2.2.1 (by omega) hx.1 hx.2 hy.1 hy.2 hz.1 hz.2
theorem sp_119 {l n x : Int} (h : CR S I L R G c lo s) (hf : few s) (hl : B32 l) (hn : B32 n) (hx : B32 x) (hQ : CK S I L R G c lo Q (outX (rLx s l x 2 (fun rs => vSaid rs n x)).1) (rLx s l x 2 (fun rs => vSaid rs n x)).2) : XC (d + 70) 119 [.ref c, .int (w l), .int (w n), .int (w x)] (mk S I L R G) Q := by
  have hc := h.1.1
  have hk : t_han 119 = [] := rfl
  unfold rLx at hQ
  by_cases cl : inL l
  · rw [if_pos cl] at hQ
    obtain ⟨k, g⟩ := h.lg cl
    have p142 := @g.p142
    have hq0 := g.hK.2.1.1
    have p143 := @g.p143
    by_cases cx : 0 ≤ x ∧ x ≤ 2
    · rw [if_pos cx] at hQ
      have s146 := fun {d : Nat} {Q : XO → Hp → Prop} => h.in (d := d) (Q := Q) hx (y := 0) (z := 2) (by decide) (by decide) cx
      simp (disch := omega) only [q_119_0, q_119_1, q_119_2, q_119_5, q_119_6, q_119_7, q_119_8, q_119_9, q_119_12, q_119_13, q_119_14, q_119_17, q_119_19, q_119_21, q_119_22, q_119_25, q_119_28, q_119_29, q_119_30, q_119_31, q_119_56, q_119_58, q_119_61, q_119_62, q_119_65, q_119_66, q_119_68, q_119_71, q_119_72, q_119_75, q_119_76, q_119_78, q_119_81, q_119_82, q_119_85, q_119_e, va_rf_s, bz_0, bz_1, bz_ok, bb_ok, Nat.add_assoc, w_lt, w_add, w_sub, w_mul, w_div, em_def, w_eq, w_inT, ↓ilt_t, ↓ilt_f, ↓ieq_t, ↓ieq_f, ntT, w_b, w_ix, kx_v, kx_n, kl_n, kl_i, kl_r, kl_o, inA_i, inA_s, inA_b, inA_z, inA_l, inA_0, inA_4, inA_5, inA_6, inA_7, inA_8, inA_9, inA_10, al_0, al_1, al_2, al_4, al_5, al_98, bsP_2, bsP_3, wr_same, wr_wr, wr_ne, up_same, up_ne, Nat.reduceAdd, Int.reduceAdd, Int.reduceSub, Int.reduceMul, Int.reduceLT, Int.reduceLE, Int.reduceEq, Int.reduceNeg, Int.reduceToNat, Nat.reduceLT, Nat.reduceLeDiff, Nat.reduceEqDiff, ↓reduceIte, true_and, and_true, not_true_eq_false, not_false_eq_true, eq_self, or_true, true_or, or_false, false_or, if_true, if_false, Int.toNat_natCast, w_ite, Nat.add_zero, reduceCtorEq, ne_eq, hc, p143, s146, p142, hq0]
      refine sp_84 g.hK.2.1 g.hR g.hM g.hU hn.1 hn.2 (fun I1 hp hk1 => ?_)
      have hQ' := CK.ask h (g.vp I1 hp) hQ
      dsimp only at hQ'
      unfold vSaid at hQ'
      rw [T_sd] at hQ'
      cases hs : sd (rlz s l) n with
      | none =>
        rw [hs] at hQ'
        simp (disch := omega) only [q_119_0, q_119_1, q_119_2, q_119_5, q_119_6, q_119_7, q_119_8, q_119_9, q_119_12, q_119_13, q_119_14, q_119_17, q_119_19, q_119_21, q_119_22, q_119_25, q_119_28, q_119_29, q_119_30, q_119_31, q_119_56, q_119_58, q_119_61, q_119_62, q_119_65, q_119_66, q_119_68, q_119_71, q_119_72, q_119_75, q_119_76, q_119_78, q_119_81, q_119_82, q_119_85, q_119_e, va_rf_s, bz_0, bz_1, bz_ok, bb_ok, Nat.add_assoc, w_lt, w_add, w_sub, w_mul, w_div, em_def, w_eq, w_inT, ↓ilt_t, ↓ilt_f, ↓ieq_t, ↓ieq_f, ntT, w_b, w_ix, kx_v, kx_n, kl_n, kl_i, kl_r, kl_o, inA_i, inA_s, inA_b, inA_z, inA_l, inA_0, inA_4, inA_5, inA_6, inA_7, inA_8, inA_9, inA_10, al_0, al_1, al_2, al_4, al_5, al_98, bsP_2, bsP_3, wr_same, wr_wr, wr_ne, up_same, up_ne, Nat.reduceAdd, Int.reduceAdd, Int.reduceSub, Int.reduceMul, Int.reduceLT, Int.reduceLE, Int.reduceEq, Int.reduceNeg, Int.reduceToNat, Nat.reduceLT, Nat.reduceLeDiff, Nat.reduceEqDiff, ↓reduceIte, true_and, and_true, not_true_eq_false, not_false_eq_true, eq_self, or_true, true_or, or_false, false_or, if_true, if_false, Int.toNat_natCast, w_ite, Nat.add_zero, reduceCtorEq, ne_eq, Option.isSome]
        exact hQ'
      | some y =>
        rw [hs] at hQ'
        have n0 : 0 ≤ n ∧ n ≤ 999999999 := by
          apply Classical.byContradiction; intro hno
          rw [sd_out (by omega)] at hs; cases hs
        have hsd : Sd I1 (k + 1) n y.1 := (hk1 n0.1 n0.2).Sd hp.2.2.1 g.ok n0.1 (by rw [T_sd, hs]; rfl)
        have hv := g.hK.2.1
        have s32 := fun {d : Nat} {Q : XO → Hp → Prop} => sp_32t (d := d) (Q := Q) (L := L) (R := R) (G := G) hv.2.1 hn.1 hn.2 hsd
        have s37 := fun {d : Nat} {Q : XO → Hp → Prop} => sp_37 (d := d) (Q := Q) (L := L) (R := R) (G := G) hv.2.1 hn.1 hn.2 hsd
        have s38 := fun {d : Nat} {Q : XO → Hp → Prop} => sp_38 (d := d) (Q := Q) (L := L) (R := R) (G := G) hv.2.1 hn.1 hn.2 hsd
        have hv0 := hv.1
        have hm0 : S (k + 2) = some (.inr 4) := hv.2.1.1
        simp only [Nat.add_assoc, Nat.reduceAdd] at s32 s37 s38
        simp (disch := omega) only [q_119_0, q_119_1, q_119_2, q_119_5, q_119_6, q_119_7, q_119_8, q_119_9, q_119_12, q_119_13, q_119_14, q_119_17, q_119_19, q_119_21, q_119_22, q_119_25, q_119_28, q_119_29, q_119_30, q_119_31, q_119_56, q_119_58, q_119_61, q_119_62, q_119_65, q_119_66, q_119_68, q_119_71, q_119_72, q_119_75, q_119_76, q_119_78, q_119_81, q_119_82, q_119_85, q_119_e, va_rf_s, bz_0, bz_1, bz_ok, bb_ok, Nat.add_assoc, w_lt, w_add, w_sub, w_mul, w_div, em_def, w_eq, w_inT, ↓ilt_t, ↓ilt_f, ↓ieq_t, ↓ieq_f, ntT, w_b, w_ix, kx_v, kx_n, kl_n, kl_i, kl_r, kl_o, inA_i, inA_s, inA_b, inA_z, inA_l, inA_0, inA_4, inA_5, inA_6, inA_7, inA_8, inA_9, inA_10, al_0, al_1, al_2, al_4, al_5, al_98, bsP_2, bsP_3, wr_same, wr_wr, wr_ne, up_same, up_ne, Nat.reduceAdd, Int.reduceAdd, Int.reduceSub, Int.reduceMul, Int.reduceLT, Int.reduceLE, Int.reduceEq, Int.reduceNeg, Int.reduceToNat, Nat.reduceLT, Nat.reduceLeDiff, Nat.reduceEqDiff, ↓reduceIte, true_and, and_true, not_true_eq_false, not_false_eq_true, eq_self, or_true, true_or, or_false, false_or, if_true, if_false, Int.toNat_natCast, w_ite, Nat.add_zero, reduceCtorEq, ne_eq, Option.isSome, w_toInt]
        have hcs : x = 0 ∨ x = 1 ∨ x = 2 := by omega
        rcases hcs with e | e | e
        · subst e
          rw [show swL [(0, 56), (1, 66)] 76 0 = 56 from rfl]
          simp (disch := omega) only [q_119_0, q_119_1, q_119_2, q_119_5, q_119_6, q_119_7, q_119_8, q_119_9, q_119_12, q_119_13, q_119_14, q_119_17, q_119_19, q_119_21, q_119_22, q_119_25, q_119_28, q_119_29, q_119_30, q_119_31, q_119_56, q_119_58, q_119_61, q_119_62, q_119_65, q_119_66, q_119_68, q_119_71, q_119_72, q_119_75, q_119_76, q_119_78, q_119_81, q_119_82, q_119_85, q_119_e, va_rf_s, bz_0, bz_1, bz_ok, bb_ok, Nat.add_assoc, w_lt, w_add, w_sub, w_mul, w_div, em_def, w_eq, w_inT, ↓ilt_t, ↓ilt_f, ↓ieq_t, ↓ieq_f, ntT, w_b, w_ix, kx_v, kx_n, kl_n, kl_i, kl_r, kl_o, inA_i, inA_s, inA_b, inA_z, inA_l, inA_0, inA_4, inA_5, inA_6, inA_7, inA_8, inA_9, inA_10, al_0, al_1, al_2, al_4, al_5, al_98, bsP_2, bsP_3, wr_same, wr_wr, wr_ne, up_same, up_ne, Nat.reduceAdd, Int.reduceAdd, Int.reduceSub, Int.reduceMul, Int.reduceLT, Int.reduceLE, Int.reduceEq, Int.reduceNeg, Int.reduceToNat, Nat.reduceLT, Nat.reduceLeDiff, Nat.reduceEqDiff, ↓reduceIte, true_and, and_true, not_true_eq_false, not_false_eq_true, eq_self, or_true, true_or, or_false, false_or, if_true, if_false, Int.toNat_natCast, w_ite, Nat.add_zero, reduceCtorEq, ne_eq, hv0, hm0, s32]
          exact hQ'
        · subst e
          rw [show swL [(0, 56), (1, 66)] 76 1 = 66 from rfl]
          simp (disch := omega) only [q_119_0, q_119_1, q_119_2, q_119_5, q_119_6, q_119_7, q_119_8, q_119_9, q_119_12, q_119_13, q_119_14, q_119_17, q_119_19, q_119_21, q_119_22, q_119_25, q_119_28, q_119_29, q_119_30, q_119_31, q_119_56, q_119_58, q_119_61, q_119_62, q_119_65, q_119_66, q_119_68, q_119_71, q_119_72, q_119_75, q_119_76, q_119_78, q_119_81, q_119_82, q_119_85, q_119_e, va_rf_s, bz_0, bz_1, bz_ok, bb_ok, Nat.add_assoc, w_lt, w_add, w_sub, w_mul, w_div, em_def, w_eq, w_inT, ↓ilt_t, ↓ilt_f, ↓ieq_t, ↓ieq_f, ntT, w_b, w_ix, kx_v, kx_n, kl_n, kl_i, kl_r, kl_o, inA_i, inA_s, inA_b, inA_z, inA_l, inA_0, inA_4, inA_5, inA_6, inA_7, inA_8, inA_9, inA_10, al_0, al_1, al_2, al_4, al_5, al_98, bsP_2, bsP_3, wr_same, wr_wr, wr_ne, up_same, up_ne, Nat.reduceAdd, Int.reduceAdd, Int.reduceSub, Int.reduceMul, Int.reduceLT, Int.reduceLE, Int.reduceEq, Int.reduceNeg, Int.reduceToNat, Nat.reduceLT, Nat.reduceLeDiff, Nat.reduceEqDiff, ↓reduceIte, true_and, and_true, not_true_eq_false, not_false_eq_true, eq_self, or_true, true_or, or_false, false_or, if_true, if_false, Int.toNat_natCast, w_ite, Nat.add_zero, reduceCtorEq, ne_eq, hv0, hm0, s37]
          exact hQ'
        · subst e
          rw [show swL [(0, 56), (1, 66)] 76 2 = 76 from rfl]
          simp (disch := omega) only [q_119_0, q_119_1, q_119_2, q_119_5, q_119_6, q_119_7, q_119_8, q_119_9, q_119_12, q_119_13, q_119_14, q_119_17, q_119_19, q_119_21, q_119_22, q_119_25, q_119_28, q_119_29, q_119_30, q_119_31, q_119_56, q_119_58, q_119_61, q_119_62, q_119_65, q_119_66, q_119_68, q_119_71, q_119_72, q_119_75, q_119_76, q_119_78, q_119_81, q_119_82, q_119_85, q_119_e, va_rf_s, bz_0, bz_1, bz_ok, bb_ok, Nat.add_assoc, w_lt, w_add, w_sub, w_mul, w_div, em_def, w_eq, w_inT, ↓ilt_t, ↓ilt_f, ↓ieq_t, ↓ieq_f, ntT, w_b, w_ix, kx_v, kx_n, kl_n, kl_i, kl_r, kl_o, inA_i, inA_s, inA_b, inA_z, inA_l, inA_0, inA_4, inA_5, inA_6, inA_7, inA_8, inA_9, inA_10, al_0, al_1, al_2, al_4, al_5, al_98, bsP_2, bsP_3, wr_same, wr_wr, wr_ne, up_same, up_ne, Nat.reduceAdd, Int.reduceAdd, Int.reduceSub, Int.reduceMul, Int.reduceLT, Int.reduceLE, Int.reduceEq, Int.reduceNeg, Int.reduceToNat, Nat.reduceLT, Nat.reduceLeDiff, Nat.reduceEqDiff, ↓reduceIte, true_and, and_true, not_true_eq_false, not_false_eq_true, eq_self, or_true, true_or, or_false, false_or, if_true, if_false, Int.toNat_natCast, w_ite, Nat.add_zero, reduceCtorEq, ne_eq, hv0, hm0, s38]
          exact hQ'
    · rw [if_neg cx] at hQ
      have s146 := fun {d : Nat} {Q : XO → Hp → Prop} => h.noI (d := d) (Q := Q) hx (y := 0) (z := 2) (by decide) (by decide) cx
      simp (disch := omega) only [q_119_0, q_119_1, q_119_2, q_119_5, q_119_6, q_119_7, q_119_8, q_119_9, q_119_12, q_119_13, q_119_14, q_119_17, q_119_19, q_119_21, q_119_22, q_119_25, q_119_28, q_119_29, q_119_30, q_119_31, q_119_56, q_119_58, q_119_61, q_119_62, q_119_65, q_119_66, q_119_68, q_119_71, q_119_72, q_119_75, q_119_76, q_119_78, q_119_81, q_119_82, q_119_85, q_119_e, va_rf_s, bz_0, bz_1, bz_ok, bb_ok, Nat.add_assoc, w_lt, w_add, w_sub, w_mul, w_div, em_def, w_eq, w_inT, ↓ilt_t, ↓ilt_f, ↓ieq_t, ↓ieq_f, ntT, w_b, w_ix, kx_v, kx_n, kl_n, kl_i, kl_r, kl_o, inA_i, inA_s, inA_b, inA_z, inA_l, inA_0, inA_4, inA_5, inA_6, inA_7, inA_8, inA_9, inA_10, al_0, al_1, al_2, al_4, al_5, al_98, bsP_2, bsP_3, wr_same, wr_wr, wr_ne, up_same, up_ne, Nat.reduceAdd, Int.reduceAdd, Int.reduceSub, Int.reduceMul, Int.reduceLT, Int.reduceLE, Int.reduceEq, Int.reduceNeg, Int.reduceToNat, Nat.reduceLT, Nat.reduceLeDiff, Nat.reduceEqDiff, ↓reduceIte, true_and, and_true, not_true_eq_false, not_false_eq_true, eq_self, or_true, true_or, or_false, false_or, if_true, if_false, Int.toNat_natCast, w_ite, Nat.add_zero, reduceCtorEq, ne_eq, hc, p143, s146, kx_t hk]
      exact CK.wro h (Rem.refl h) hf.2 hQ
  · rw [if_neg cl] at hQ
    have s143 := fun {d : Nat} {Q : XO → Hp → Prop} => h.noL (d := d) (Q := Q) hl cl
    simp (disch := omega) only [q_119_0, q_119_1, q_119_2, q_119_5, q_119_6, q_119_7, q_119_8, q_119_9, q_119_12, q_119_13, q_119_14, q_119_17, q_119_19, q_119_21, q_119_22, q_119_25, q_119_28, q_119_29, q_119_30, q_119_31, q_119_56, q_119_58, q_119_61, q_119_62, q_119_65, q_119_66, q_119_68, q_119_71, q_119_72, q_119_75, q_119_76, q_119_78, q_119_81, q_119_82, q_119_85, q_119_e, va_rf_s, bz_0, bz_1, bz_ok, bb_ok, Nat.add_assoc, w_lt, w_add, w_sub, w_mul, w_div, em_def, w_eq, w_inT, ↓ilt_t, ↓ilt_f, ↓ieq_t, ↓ieq_f, ntT, w_b, w_ix, kx_v, kx_n, kl_n, kl_i, kl_r, kl_o, inA_i, inA_s, inA_b, inA_z, inA_l, inA_0, inA_4, inA_5, inA_6, inA_7, inA_8, inA_9, inA_10, al_0, al_1, al_2, al_4, al_5, al_98, bsP_2, bsP_3, wr_same, wr_wr, wr_ne, up_same, up_ne, Nat.reduceAdd, Int.reduceAdd, Int.reduceSub, Int.reduceMul, Int.reduceLT, Int.reduceLE, Int.reduceEq, Int.reduceNeg, Int.reduceToNat, Nat.reduceLT, Nat.reduceLeDiff, Nat.reduceEqDiff, ↓reduceIte, true_and, and_true, not_true_eq_false, not_false_eq_true, eq_self, or_true, true_or, or_false, false_or, if_true, if_false, Int.toNat_natCast, w_ite, Nat.add_zero, reduceCtorEq, ne_eq, hc, s143, kx_t hk]
    exact CK.mis h (Rem.refl h) hf.1 hQ
theorem sp_120 {l n x : Int} (h : CR S I L R G c lo s) (hf : few s) (hl : B32 l) (hn : B32 n) (hx : B32 x) (hQ : CK S I L R G c lo Q (outX (rLg s l (fun rs => vAt rs n x)).1) (rLg s l (fun rs => vAt rs n x)).2) : XC (d + 70) 120 [.ref c, .int (w l), .int (w n), .int (w x)] (mk S I L R G) Q := by
  have hc := h.1.1
  have hk : t_han 120 = [] := rfl
  unfold rLg at hQ
  by_cases cl : inL l
  · rw [if_pos cl] at hQ
    obtain ⟨k, g⟩ := h.lg cl
    have p142 := @g.p142
    have hq0 := g.hK.2.1.1
    have p143 := @g.p143
    simp (disch := omega) only [q_120_0, q_120_1, q_120_2, q_120_5, q_120_6, q_120_7, q_120_10, q_120_12, q_120_14, q_120_15, q_120_18, q_120_21, q_120_23, q_120_26, q_120_27, q_120_28, q_120_31, q_120_34, q_120_35, q_120_e, va_rf_s, bz_0, bz_1, bz_ok, bb_ok, Nat.add_assoc, w_lt, w_add, w_sub, w_mul, w_div, em_def, w_eq, w_inT, ↓ilt_t, ↓ilt_f, ↓ieq_t, ↓ieq_f, ntT, w_b, w_ix, kx_v, kx_n, kl_n, kl_i, kl_r, kl_o, inA_i, inA_s, inA_b, inA_z, inA_l, inA_0, inA_4, inA_5, inA_6, inA_7, inA_8, inA_9, inA_10, al_0, al_1, al_2, al_4, al_5, al_98, bsP_2, bsP_3, wr_same, wr_wr, wr_ne, up_same, up_ne, Nat.reduceAdd, Int.reduceAdd, Int.reduceSub, Int.reduceMul, Int.reduceLT, Int.reduceLE, Int.reduceEq, Int.reduceNeg, Int.reduceToNat, Nat.reduceLT, Nat.reduceLeDiff, Nat.reduceEqDiff, ↓reduceIte, true_and, and_true, not_true_eq_false, not_false_eq_true, eq_self, or_true, true_or, or_false, false_or, if_true, if_false, Int.toNat_natCast, w_ite, Nat.add_zero, reduceCtorEq, ne_eq, hc, p143, p142, hq0]
    refine sp_84 g.hK.2.1 g.hR g.hM g.hU hn.1 hn.2 (fun I1 hp hk1 => ?_)
    have hQ' := CK.ask h (g.vp I1 hp) hQ
    dsimp only at hQ'
    unfold vAt at hQ'
    rw [T_sd] at hQ'
    cases hs : sd (rlz s l) n with
    | none =>
      rw [hs] at hQ'
      simp (disch := omega) only [q_120_0, q_120_1, q_120_2, q_120_5, q_120_6, q_120_7, q_120_10, q_120_12, q_120_14, q_120_15, q_120_18, q_120_21, q_120_23, q_120_26, q_120_27, q_120_28, q_120_31, q_120_34, q_120_35, q_120_e, va_rf_s, bz_0, bz_1, bz_ok, bb_ok, Nat.add_assoc, w_lt, w_add, w_sub, w_mul, w_div, em_def, w_eq, w_inT, ↓ilt_t, ↓ilt_f, ↓ieq_t, ↓ieq_f, ntT, w_b, w_ix, kx_v, kx_n, kl_n, kl_i, kl_r, kl_o, inA_i, inA_s, inA_b, inA_z, inA_l, inA_0, inA_4, inA_5, inA_6, inA_7, inA_8, inA_9, inA_10, al_0, al_1, al_2, al_4, al_5, al_98, bsP_2, bsP_3, wr_same, wr_wr, wr_ne, up_same, up_ne, Nat.reduceAdd, Int.reduceAdd, Int.reduceSub, Int.reduceMul, Int.reduceLT, Int.reduceLE, Int.reduceEq, Int.reduceNeg, Int.reduceToNat, Nat.reduceLT, Nat.reduceLeDiff, Nat.reduceEqDiff, ↓reduceIte, true_and, and_true, not_true_eq_false, not_false_eq_true, eq_self, or_true, true_or, or_false, false_or, if_true, if_false, Int.toNat_natCast, w_ite, Nat.add_zero, reduceCtorEq, ne_eq, Option.isSome]
      exact hQ'
    | some y =>
      rw [hs] at hQ'
      have n0 : 0 ≤ n ∧ n ≤ 999999999 := by
        apply Classical.byContradiction; intro hno
        rw [sd_out (by omega)] at hs; cases hs
      have hsd : Sd I1 (k + 1) n y.1 := (hk1 n0.1 n0.2).Sd hp.2.2.1 g.ok n0.1 (by rw [T_sd, hs]; rfl)
      have hv := g.hK.2.1
      have s36 := fun {d : Nat} {Q : XO → Hp → Prop} => sp_36 (d := d) (Q := Q) (L := L) (R := R) (G := G) hv.2.1 hn.1 hn.2 hsd hx.1 hx.2
      have hv0 := hv.1
      have hm0 : S (k + 2) = some (.inr 4) := hv.2.1.1
      simp only [Nat.add_assoc, Nat.reduceAdd] at s36
      simp (disch := omega) only [q_120_0, q_120_1, q_120_2, q_120_5, q_120_6, q_120_7, q_120_10, q_120_12, q_120_14, q_120_15, q_120_18, q_120_21, q_120_23, q_120_26, q_120_27, q_120_28, q_120_31, q_120_34, q_120_35, q_120_e, va_rf_s, bz_0, bz_1, bz_ok, bb_ok, Nat.add_assoc, w_lt, w_add, w_sub, w_mul, w_div, em_def, w_eq, w_inT, ↓ilt_t, ↓ilt_f, ↓ieq_t, ↓ieq_f, ntT, w_b, w_ix, kx_v, kx_n, kl_n, kl_i, kl_r, kl_o, inA_i, inA_s, inA_b, inA_z, inA_l, inA_0, inA_4, inA_5, inA_6, inA_7, inA_8, inA_9, inA_10, al_0, al_1, al_2, al_4, al_5, al_98, bsP_2, bsP_3, wr_same, wr_wr, wr_ne, up_same, up_ne, Nat.reduceAdd, Int.reduceAdd, Int.reduceSub, Int.reduceMul, Int.reduceLT, Int.reduceLE, Int.reduceEq, Int.reduceNeg, Int.reduceToNat, Nat.reduceLT, Nat.reduceLeDiff, Nat.reduceEqDiff, ↓reduceIte, true_and, and_true, not_true_eq_false, not_false_eq_true, eq_self, or_true, true_or, or_false, false_or, if_true, if_false, Int.toNat_natCast, w_ite, Nat.add_zero, reduceCtorEq, ne_eq, Option.isSome, hv0, hm0, s36]
      exact hQ'
  · rw [if_neg cl] at hQ
    have s143 := fun {d : Nat} {Q : XO → Hp → Prop} => h.noL (d := d) (Q := Q) hl cl
    simp (disch := omega) only [q_120_0, q_120_1, q_120_2, q_120_5, q_120_6, q_120_7, q_120_10, q_120_12, q_120_14, q_120_15, q_120_18, q_120_21, q_120_23, q_120_26, q_120_27, q_120_28, q_120_31, q_120_34, q_120_35, q_120_e, va_rf_s, bz_0, bz_1, bz_ok, bb_ok, Nat.add_assoc, w_lt, w_add, w_sub, w_mul, w_div, em_def, w_eq, w_inT, ↓ilt_t, ↓ilt_f, ↓ieq_t, ↓ieq_f, ntT, w_b, w_ix, kx_v, kx_n, kl_n, kl_i, kl_r, kl_o, inA_i, inA_s, inA_b, inA_z, inA_l, inA_0, inA_4, inA_5, inA_6, inA_7, inA_8, inA_9, inA_10, al_0, al_1, al_2, al_4, al_5, al_98, bsP_2, bsP_3, wr_same, wr_wr, wr_ne, up_same, up_ne, Nat.reduceAdd, Int.reduceAdd, Int.reduceSub, Int.reduceMul, Int.reduceLT, Int.reduceLE, Int.reduceEq, Int.reduceNeg, Int.reduceToNat, Nat.reduceLT, Nat.reduceLeDiff, Nat.reduceEqDiff, ↓reduceIte, true_and, and_true, not_true_eq_false, not_false_eq_true, eq_self, or_true, true_or, or_false, false_or, if_true, if_false, Int.toNat_natCast, w_ite, Nat.add_zero, reduceCtorEq, ne_eq, hc, s143, kx_t hk]
    exact CK.mis h (Rem.refl h) hf.1 hQ
theorem sp_121 {l n : Int} (h : CR S I L R G c lo s) (hf : few s) (hl : B32 l) (hn : B32 n) (hQ : CK S I L R G c lo Q (outX (rLg s l (fun rs => vAsked rs n)).1) (rLg s l (fun rs => vAsked rs n)).2) : XC (d + 70) 121 [.ref c, .int (w l), .int (w n)] (mk S I L R G) Q := by
  have hc := h.1.1
  have hk : t_han 121 = [] := rfl
  unfold rLg at hQ
  by_cases cl : inL l
  · rw [if_pos cl] at hQ
    obtain ⟨k, g⟩ := h.lg cl
    have p142 := @g.p142
    have hq0 := g.hK.2.1.1
    have p143 := @g.p143
    simp (disch := omega) only [q_121_0, q_121_1, q_121_2, q_121_5, q_121_6, q_121_7, q_121_10, q_121_11, q_121_12, q_121_13, q_121_16, q_121_19, q_121_20, q_121_23, q_121_24, q_121_27, q_121_30, q_121_31, q_121_e, va_rf_s, bz_0, bz_1, bz_ok, bb_ok, Nat.add_assoc, w_lt, w_add, w_sub, w_mul, w_div, em_def, w_eq, w_inT, ↓ilt_t, ↓ilt_f, ↓ieq_t, ↓ieq_f, ntT, w_b, w_ix, kx_v, kx_n, kl_n, kl_i, kl_r, kl_o, inA_i, inA_s, inA_b, inA_z, inA_l, inA_0, inA_4, inA_5, inA_6, inA_7, inA_8, inA_9, inA_10, al_0, al_1, al_2, al_4, al_5, al_98, bsP_2, bsP_3, wr_same, wr_wr, wr_ne, up_same, up_ne, Nat.reduceAdd, Int.reduceAdd, Int.reduceSub, Int.reduceMul, Int.reduceLT, Int.reduceLE, Int.reduceEq, Int.reduceNeg, Int.reduceToNat, Nat.reduceLT, Nat.reduceLeDiff, Nat.reduceEqDiff, ↓reduceIte, true_and, and_true, not_true_eq_false, not_false_eq_true, eq_self, or_true, true_or, or_false, false_or, if_true, if_false, Int.toNat_natCast, w_ite, Nat.add_zero, reduceCtorEq, ne_eq, hc, p143, p142, hq0]
    refine sp_84 g.hK.2.1 g.hR g.hM g.hU hn.1 hn.2 (fun I1 hp hk1 => ?_)
    have hQ' := CK.ask h (g.vp I1 hp) hQ
    dsimp only at hQ'
    unfold vAsked at hQ'
    cases hs : sd (rlz s l) n with
    | none =>
      rw [hs] at hQ'
      simp (disch := omega) only [q_121_0, q_121_1, q_121_2, q_121_5, q_121_6, q_121_7, q_121_10, q_121_11, q_121_12, q_121_13, q_121_16, q_121_19, q_121_20, q_121_23, q_121_24, q_121_27, q_121_30, q_121_31, q_121_e, va_rf_s, bz_0, bz_1, bz_ok, bb_ok, Nat.add_assoc, w_lt, w_add, w_sub, w_mul, w_div, em_def, w_eq, w_inT, ↓ilt_t, ↓ilt_f, ↓ieq_t, ↓ieq_f, ntT, w_b, w_ix, kx_v, kx_n, kl_n, kl_i, kl_r, kl_o, inA_i, inA_s, inA_b, inA_z, inA_l, inA_0, inA_4, inA_5, inA_6, inA_7, inA_8, inA_9, inA_10, al_0, al_1, al_2, al_4, al_5, al_98, bsP_2, bsP_3, wr_same, wr_wr, wr_ne, up_same, up_ne, Nat.reduceAdd, Int.reduceAdd, Int.reduceSub, Int.reduceMul, Int.reduceLT, Int.reduceLE, Int.reduceEq, Int.reduceNeg, Int.reduceToNat, Nat.reduceLT, Nat.reduceLeDiff, Nat.reduceEqDiff, ↓reduceIte, true_and, and_true, not_true_eq_false, not_false_eq_true, eq_self, or_true, true_or, or_false, false_or, if_true, if_false, Int.toNat_natCast, w_ite, Nat.add_zero, reduceCtorEq, ne_eq, Option.isSome]
      exact hQ'
    | some y =>
      rw [hs] at hQ'
      have n0 : 0 ≤ n ∧ n ≤ 999999999 := by
        apply Classical.byContradiction; intro hno
        rw [sd_out (by omega)] at hs; cases hs
      have ha := (Kn.said (t := y.1) (a := y.2) hp.2.2.1 (hk1 n0.1 n0.2) n0.1 hs).2.2.1
      have hv := g.hK.2.1
      have s33 := fun {d : Nat} {Q : XO → Hp → Prop} => sp_33 (d := d) (Q := Q) (I := I1) (L := L) (R := R) (G := G) hv.2.1 hn.1 hn.2
      have hv0 := hv.1
      have hm0 : S (k + 2) = some (.inr 4) := hv.2.1.1
      simp only [Nat.add_assoc, Nat.reduceAdd] at s33 ha
      rw [ha] at s33
      simp (disch := omega) only [q_121_0, q_121_1, q_121_2, q_121_5, q_121_6, q_121_7, q_121_10, q_121_11, q_121_12, q_121_13, q_121_16, q_121_19, q_121_20, q_121_23, q_121_24, q_121_27, q_121_30, q_121_31, q_121_e, va_rf_s, bz_0, bz_1, bz_ok, bb_ok, Nat.add_assoc, w_lt, w_add, w_sub, w_mul, w_div, em_def, w_eq, w_inT, ↓ilt_t, ↓ilt_f, ↓ieq_t, ↓ieq_f, ntT, w_b, w_ix, kx_v, kx_n, kl_n, kl_i, kl_r, kl_o, inA_i, inA_s, inA_b, inA_z, inA_l, inA_0, inA_4, inA_5, inA_6, inA_7, inA_8, inA_9, inA_10, al_0, al_1, al_2, al_4, al_5, al_98, bsP_2, bsP_3, wr_same, wr_wr, wr_ne, up_same, up_ne, Nat.reduceAdd, Int.reduceAdd, Int.reduceSub, Int.reduceMul, Int.reduceLT, Int.reduceLE, Int.reduceEq, Int.reduceNeg, Int.reduceToNat, Nat.reduceLT, Nat.reduceLeDiff, Nat.reduceEqDiff, ↓reduceIte, true_and, and_true, not_true_eq_false, not_false_eq_true, eq_self, or_true, true_or, or_false, false_or, if_true, if_false, Int.toNat_natCast, w_ite, Nat.add_zero, reduceCtorEq, ne_eq, Option.isSome, hv0, hm0, s33]
      exact hQ'
  · rw [if_neg cl] at hQ
    have s143 := fun {d : Nat} {Q : XO → Hp → Prop} => h.noL (d := d) (Q := Q) hl cl
    simp (disch := omega) only [q_121_0, q_121_1, q_121_2, q_121_5, q_121_6, q_121_7, q_121_10, q_121_11, q_121_12, q_121_13, q_121_16, q_121_19, q_121_20, q_121_23, q_121_24, q_121_27, q_121_30, q_121_31, q_121_e, va_rf_s, bz_0, bz_1, bz_ok, bb_ok, Nat.add_assoc, w_lt, w_add, w_sub, w_mul, w_div, em_def, w_eq, w_inT, ↓ilt_t, ↓ilt_f, ↓ieq_t, ↓ieq_f, ntT, w_b, w_ix, kx_v, kx_n, kl_n, kl_i, kl_r, kl_o, inA_i, inA_s, inA_b, inA_z, inA_l, inA_0, inA_4, inA_5, inA_6, inA_7, inA_8, inA_9, inA_10, al_0, al_1, al_2, al_4, al_5, al_98, bsP_2, bsP_3, wr_same, wr_wr, wr_ne, up_same, up_ne, Nat.reduceAdd, Int.reduceAdd, Int.reduceSub, Int.reduceMul, Int.reduceLT, Int.reduceLE, Int.reduceEq, Int.reduceNeg, Int.reduceToNat, Nat.reduceLT, Nat.reduceLeDiff, Nat.reduceEqDiff, ↓reduceIte, true_and, and_true, not_true_eq_false, not_false_eq_true, eq_self, or_true, true_or, or_false, false_or, if_true, if_false, Int.toNat_natCast, w_ite, Nat.add_zero, reduceCtorEq, ne_eq, hc, s143, kx_t hk]
    exact CK.mis h (Rem.refl h) hf.1 hQ
theorem sp_122 {l n : Int} (h : CR S I L R G c lo s) (hf : few s) (hl : B32 l) (hn : B32 n) (hQ : CK S I L R G c lo Q (outX (rLg s l (fun rs => vCauses rs n)).1) (rLg s l (fun rs => vCauses rs n)).2) : XC (d + 70) 122 [.ref c, .int (w l), .int (w n)] (mk S I L R G) Q := by
  have hc := h.1.1
  have hk : t_han 122 = [] := rfl
  unfold rLg at hQ
  by_cases cl : inL l
  · rw [if_pos cl] at hQ
    obtain ⟨k, g⟩ := h.lg cl
    have p142 := @g.p142
    have hq0 := g.hK.2.1.1
    have p143 := @g.p143
    simp (disch := omega) only [q_122_0, q_122_1, q_122_2, q_122_5, q_122_6, q_122_7, q_122_10, q_122_11, q_122_14, q_122_e, va_rf_s, bz_0, bz_1, bz_ok, bb_ok, Nat.add_assoc, w_lt, w_add, w_sub, w_mul, w_div, em_def, w_eq, w_inT, ↓ilt_t, ↓ilt_f, ↓ieq_t, ↓ieq_f, ntT, w_b, w_ix, kx_v, kx_n, kl_n, kl_i, kl_r, kl_o, inA_i, inA_s, inA_b, inA_z, inA_l, inA_0, inA_4, inA_5, inA_6, inA_7, inA_8, inA_9, inA_10, al_0, al_1, al_2, al_4, al_5, al_98, bsP_2, bsP_3, wr_same, wr_wr, wr_ne, up_same, up_ne, Nat.reduceAdd, Int.reduceAdd, Int.reduceSub, Int.reduceMul, Int.reduceLT, Int.reduceLE, Int.reduceEq, Int.reduceNeg, Int.reduceToNat, Nat.reduceLT, Nat.reduceLeDiff, Nat.reduceEqDiff, ↓reduceIte, true_and, and_true, not_true_eq_false, not_false_eq_true, eq_self, or_true, true_or, or_false, false_or, if_true, if_false, Int.toNat_natCast, w_ite, Nat.add_zero, reduceCtorEq, ne_eq, hc, p143, p142, hq0]
    refine sp_87 g.hK.2.1 g.hR g.hM g.hU hn.1 hn.2 (fun I1 hp h4 hcr => ?_)
    simp (disch := omega) only [q_122_0, q_122_1, q_122_2, q_122_5, q_122_6, q_122_7, q_122_10, q_122_11, q_122_14, q_122_e, va_rf_s, bz_0, bz_1, bz_ok, bb_ok, Nat.add_assoc, w_lt, w_add, w_sub, w_mul, w_div, em_def, w_eq, w_inT, ↓ilt_t, ↓ilt_f, ↓ieq_t, ↓ieq_f, ntT, w_b, w_ix, kx_v, kx_n, kl_n, kl_i, kl_r, kl_o, inA_i, inA_s, inA_b, inA_z, inA_l, inA_0, inA_4, inA_5, inA_6, inA_7, inA_8, inA_9, inA_10, al_0, al_1, al_2, al_4, al_5, al_98, bsP_2, bsP_3, wr_same, wr_wr, wr_ne, up_same, up_ne, Nat.reduceAdd, Int.reduceAdd, Int.reduceSub, Int.reduceMul, Int.reduceLT, Int.reduceLE, Int.reduceEq, Int.reduceNeg, Int.reduceToNat, Nat.reduceLT, Nat.reduceLeDiff, Nat.reduceEqDiff, ↓reduceIte, true_and, and_true, not_true_eq_false, not_false_eq_true, eq_self, or_true, true_or, or_false, false_or, if_true, if_false, Int.toNat_natCast, w_ite, Nat.add_zero, reduceCtorEq, ne_eq]
    exact CK.ask h (g.vp I1 hp) hQ
  · rw [if_neg cl] at hQ
    have s143 := fun {d : Nat} {Q : XO → Hp → Prop} => h.noL (d := d) (Q := Q) hl cl
    simp (disch := omega) only [q_122_0, q_122_1, q_122_2, q_122_5, q_122_6, q_122_7, q_122_10, q_122_11, q_122_14, q_122_e, va_rf_s, bz_0, bz_1, bz_ok, bb_ok, Nat.add_assoc, w_lt, w_add, w_sub, w_mul, w_div, em_def, w_eq, w_inT, ↓ilt_t, ↓ilt_f, ↓ieq_t, ↓ieq_f, ntT, w_b, w_ix, kx_v, kx_n, kl_n, kl_i, kl_r, kl_o, inA_i, inA_s, inA_b, inA_z, inA_l, inA_0, inA_4, inA_5, inA_6, inA_7, inA_8, inA_9, inA_10, al_0, al_1, al_2, al_4, al_5, al_98, bsP_2, bsP_3, wr_same, wr_wr, wr_ne, up_same, up_ne, Nat.reduceAdd, Int.reduceAdd, Int.reduceSub, Int.reduceMul, Int.reduceLT, Int.reduceLE, Int.reduceEq, Int.reduceNeg, Int.reduceToNat, Nat.reduceLT, Nat.reduceLeDiff, Nat.reduceEqDiff, ↓reduceIte, true_and, and_true, not_true_eq_false, not_false_eq_true, eq_self, or_true, true_or, or_false, false_or, if_true, if_false, Int.toNat_natCast, w_ite, Nat.add_zero, reduceCtorEq, ne_eq, hc, s143, kx_t hk]
    exact CK.mis h (Rem.refl h) hf.1 hQ
theorem sp_123 {l n q x : Int} (h : CR S I L R G c lo s) (hf : few s) (hl : B32 l) (hn : B32 n) (hq : B32 q) (hx : B32 x) (hQ : CK S I L R G c lo Q (outX (rCause s l n q x).1) (rCause s l n q x).2) : XC (d + 70) 123 [.ref c, .int (w l), .int (w n), .int (w q), .int (w x)] (mk S I L R G) Q := by
  have hc := h.1.1
  have hk : t_han 123 = [] := rfl
  unfold rCause at hQ
  by_cases cl : inL l
  · obtain ⟨k, g⟩ := h.lg cl
    have p142 := @g.p142
    have hq0 := g.hK.2.1.1
    have p143 := @g.p143
    have h31 := cs_len (rlz s l) n
    simp (disch := omega) only [q_123_0, q_123_1, q_123_2, q_123_5, q_123_6, q_123_7, q_123_10, q_123_12, q_123_13, q_123_14, q_123_16, q_123_17, q_123_20, q_123_23, q_123_24, q_123_26, q_123_27, q_123_28, q_123_31, q_123_33, q_123_36, q_123_37, q_123_39, q_123_42, q_123_e, va_rf_s, bz_0, bz_1, bz_ok, bb_ok, Nat.add_assoc, w_lt, w_add, w_sub, w_mul, w_div, em_def, w_eq, w_inT, ↓ilt_t, ↓ilt_f, ↓ieq_t, ↓ieq_f, ntT, w_b, w_ix, kx_v, kx_n, kl_n, kl_i, kl_r, kl_o, inA_i, inA_s, inA_b, inA_z, inA_l, inA_0, inA_4, inA_5, inA_6, inA_7, inA_8, inA_9, inA_10, al_0, al_1, al_2, al_4, al_5, al_98, bsP_2, bsP_3, wr_same, wr_wr, wr_ne, up_same, up_ne, Nat.reduceAdd, Int.reduceAdd, Int.reduceSub, Int.reduceMul, Int.reduceLT, Int.reduceLE, Int.reduceEq, Int.reduceNeg, Int.reduceToNat, Nat.reduceLT, Nat.reduceLeDiff, Nat.reduceEqDiff, ↓reduceIte, true_and, and_true, not_true_eq_false, not_false_eq_true, eq_self, or_true, true_or, or_false, false_or, if_true, if_false, Int.toNat_natCast, w_ite, Nat.add_zero, reduceCtorEq, ne_eq, hc, p143, p142, hq0]
    refine sp_87 g.hK.2.1 g.hR g.hM g.hU hn.1 hn.2 (fun I1 hp h4 hcr => ?_)
    have hrm := g.vp I1 hp
    have h1 := hrm.cr h
    by_cases cq : 0 ≤ q ∧ q < (cs (rlz s l) n).length
    · rw [if_pos ⟨cl, cq⟩] at hQ
      have s145 := fun {d : Nat} {Q : XO → Hp → Prop} => sp_145 (d := d) (Q := Q) (S := S) (I := I1) (L := L) (R := R) (G := G) (c := c) (v := q) (h := (cs (rlz s l) n).length) cq hq.1 hq.2 (by omega) (by omega)
      by_cases cx : 0 ≤ x ∧ x ≤ 3
      · rw [if_pos cx] at hQ
        have hQ' := CK.ask h hrm hQ
        dsimp only at hQ'
        have s146 := fun {d : Nat} {Q : XO → Hp → Prop} => h1.in (d := d) (Q := Q) hx (y := 0) (z := 3) (by decide) (by decide) cx
        have hv := g.hK.2.1
        have hv0 := hv.1
        have hm0 : S (k + 2) = some (.inr 4) := hv.2.1.1
        simp (disch := omega) only [q_123_0, q_123_1, q_123_2, q_123_5, q_123_6, q_123_7, q_123_10, q_123_12, q_123_13, q_123_14, q_123_16, q_123_17, q_123_20, q_123_23, q_123_24, q_123_26, q_123_27, q_123_28, q_123_31, q_123_33, q_123_36, q_123_37, q_123_39, q_123_42, q_123_e, va_rf_s, bz_0, bz_1, bz_ok, bb_ok, Nat.add_assoc, w_lt, w_add, w_sub, w_mul, w_div, em_def, w_eq, w_inT, ↓ilt_t, ↓ilt_f, ↓ieq_t, ↓ieq_f, ntT, w_b, w_ix, kx_v, kx_n, kl_n, kl_i, kl_r, kl_o, inA_i, inA_s, inA_b, inA_z, inA_l, inA_0, inA_4, inA_5, inA_6, inA_7, inA_8, inA_9, inA_10, al_0, al_1, al_2, al_4, al_5, al_98, bsP_2, bsP_3, wr_same, wr_wr, wr_ne, up_same, up_ne, Nat.reduceAdd, Int.reduceAdd, Int.reduceSub, Int.reduceMul, Int.reduceLT, Int.reduceLE, Int.reduceEq, Int.reduceNeg, Int.reduceToNat, Nat.reduceLT, Nat.reduceLeDiff, Nat.reduceEqDiff, ↓reduceIte, true_and, and_true, not_true_eq_false, not_false_eq_true, eq_self, or_true, true_or, or_false, false_or, if_true, if_false, Int.toNat_natCast, w_ite, Nat.add_zero, reduceCtorEq, ne_eq, hc, s145, s146, hv0, show S (k + 8) = some (.inr 1) from hv.2.2.1.1]
        rw [show q = (q.toNat : Int) by omega, show x = (x.toNat : Int) by omega]
        have hne : cs (rlz s l) n ≠ [] := fun e => by rw [e] at cq; simp at cq; omega
        refine sp_10 (k := q.toNat) (wh := x.toNat) (l := cs (rlz s l) n) hv.2.2.1 (h4 hne) h31 (by omega) (hcr _ (by omega)) (by omega) ?_
        simp (disch := omega) only [q_123_0, q_123_1, q_123_2, q_123_5, q_123_6, q_123_7, q_123_10, q_123_12, q_123_13, q_123_14, q_123_16, q_123_17, q_123_20, q_123_23, q_123_24, q_123_26, q_123_27, q_123_28, q_123_31, q_123_33, q_123_36, q_123_37, q_123_39, q_123_42, q_123_e, va_rf_s, bz_0, bz_1, bz_ok, bb_ok, Nat.add_assoc, w_lt, w_add, w_sub, w_mul, w_div, em_def, w_eq, w_inT, ↓ilt_t, ↓ilt_f, ↓ieq_t, ↓ieq_f, ntT, w_b, w_ix, kx_v, kx_n, kl_n, kl_i, kl_r, kl_o, inA_i, inA_s, inA_b, inA_z, inA_l, inA_0, inA_4, inA_5, inA_6, inA_7, inA_8, inA_9, inA_10, al_0, al_1, al_2, al_4, al_5, al_98, bsP_2, bsP_3, wr_same, wr_wr, wr_ne, up_same, up_ne, Nat.reduceAdd, Int.reduceAdd, Int.reduceSub, Int.reduceMul, Int.reduceLT, Int.reduceLE, Int.reduceEq, Int.reduceNeg, Int.reduceToNat, Nat.reduceLT, Nat.reduceLeDiff, Nat.reduceEqDiff, ↓reduceIte, true_and, and_true, not_true_eq_false, not_false_eq_true, eq_self, or_true, true_or, or_false, false_or, if_true, if_false, Int.toNat_natCast, w_ite, Nat.add_zero, reduceCtorEq, ne_eq]
        have hcs : x = 0 ∨ x = 1 ∨ x = 2 ∨ x = 3 := by omega
        rcases hcs with e | e | e | e <;> subst e <;> exact hQ'
      · rw [if_neg cx] at hQ
        have s146 := fun {d : Nat} {Q : XO → Hp → Prop} => h1.noI (d := d) (Q := Q) hx (y := 0) (z := 3) (by decide) (by decide) cx
        simp (disch := omega) only [q_123_0, q_123_1, q_123_2, q_123_5, q_123_6, q_123_7, q_123_10, q_123_12, q_123_13, q_123_14, q_123_16, q_123_17, q_123_20, q_123_23, q_123_24, q_123_26, q_123_27, q_123_28, q_123_31, q_123_33, q_123_36, q_123_37, q_123_39, q_123_42, q_123_e, va_rf_s, bz_0, bz_1, bz_ok, bb_ok, Nat.add_assoc, w_lt, w_add, w_sub, w_mul, w_div, em_def, w_eq, w_inT, ↓ilt_t, ↓ilt_f, ↓ieq_t, ↓ieq_f, ntT, w_b, w_ix, kx_v, kx_n, kl_n, kl_i, kl_r, kl_o, inA_i, inA_s, inA_b, inA_z, inA_l, inA_0, inA_4, inA_5, inA_6, inA_7, inA_8, inA_9, inA_10, al_0, al_1, al_2, al_4, al_5, al_98, bsP_2, bsP_3, wr_same, wr_wr, wr_ne, up_same, up_ne, Nat.reduceAdd, Int.reduceAdd, Int.reduceSub, Int.reduceMul, Int.reduceLT, Int.reduceLE, Int.reduceEq, Int.reduceNeg, Int.reduceToNat, Nat.reduceLT, Nat.reduceLeDiff, Nat.reduceEqDiff, ↓reduceIte, true_and, and_true, not_true_eq_false, not_false_eq_true, eq_self, or_true, true_or, or_false, false_or, if_true, if_false, Int.toNat_natCast, w_ite, Nat.add_zero, reduceCtorEq, ne_eq, hc, s145, s146, kx_t hk]
        exact CK.wro h hrm hf.2 hQ
    · rw [if_neg (fun h => cq h.2)] at hQ
      have s145 := fun {d : Nat} {Q : XO → Hp → Prop} => sp_145x (d := d) (Q := Q) (S := S) (I := I1) (L := L) (R := R) (G := G) (c := c) (v := q) (h := (cs (rlz s l) n).length) hc h1.2.2.2.2.2.2.2.2.2.2.2.1 (by omega) hq.1 hq.2 (by omega) (by omega)
      simp (disch := omega) only [q_123_0, q_123_1, q_123_2, q_123_5, q_123_6, q_123_7, q_123_10, q_123_12, q_123_13, q_123_14, q_123_16, q_123_17, q_123_20, q_123_23, q_123_24, q_123_26, q_123_27, q_123_28, q_123_31, q_123_33, q_123_36, q_123_37, q_123_39, q_123_42, q_123_e, va_rf_s, bz_0, bz_1, bz_ok, bb_ok, Nat.add_assoc, w_lt, w_add, w_sub, w_mul, w_div, em_def, w_eq, w_inT, ↓ilt_t, ↓ilt_f, ↓ieq_t, ↓ieq_f, ntT, w_b, w_ix, kx_v, kx_n, kl_n, kl_i, kl_r, kl_o, inA_i, inA_s, inA_b, inA_z, inA_l, inA_0, inA_4, inA_5, inA_6, inA_7, inA_8, inA_9, inA_10, al_0, al_1, al_2, al_4, al_5, al_98, bsP_2, bsP_3, wr_same, wr_wr, wr_ne, up_same, up_ne, Nat.reduceAdd, Int.reduceAdd, Int.reduceSub, Int.reduceMul, Int.reduceLT, Int.reduceLE, Int.reduceEq, Int.reduceNeg, Int.reduceToNat, Nat.reduceLT, Nat.reduceLeDiff, Nat.reduceEqDiff, ↓reduceIte, true_and, and_true, not_true_eq_false, not_false_eq_true, eq_self, or_true, true_or, or_false, false_or, if_true, if_false, Int.toNat_natCast, w_ite, Nat.add_zero, reduceCtorEq, ne_eq, hc, s145, kx_t hk]
      exact CK.mis h hrm hf.1 hQ
  · rw [if_neg (fun h => cl h.1)] at hQ
    have s143 := fun {d : Nat} {Q : XO → Hp → Prop} => h.noL (d := d) (Q := Q) hl cl
    simp (disch := omega) only [q_123_0, q_123_1, q_123_2, q_123_5, q_123_6, q_123_7, q_123_10, q_123_12, q_123_13, q_123_14, q_123_16, q_123_17, q_123_20, q_123_23, q_123_24, q_123_26, q_123_27, q_123_28, q_123_31, q_123_33, q_123_36, q_123_37, q_123_39, q_123_42, q_123_e, va_rf_s, bz_0, bz_1, bz_ok, bb_ok, Nat.add_assoc, w_lt, w_add, w_sub, w_mul, w_div, em_def, w_eq, w_inT, ↓ilt_t, ↓ilt_f, ↓ieq_t, ↓ieq_f, ntT, w_b, w_ix, kx_v, kx_n, kl_n, kl_i, kl_r, kl_o, inA_i, inA_s, inA_b, inA_z, inA_l, inA_0, inA_4, inA_5, inA_6, inA_7, inA_8, inA_9, inA_10, al_0, al_1, al_2, al_4, al_5, al_98, bsP_2, bsP_3, wr_same, wr_wr, wr_ne, up_same, up_ne, Nat.reduceAdd, Int.reduceAdd, Int.reduceSub, Int.reduceMul, Int.reduceLT, Int.reduceLE, Int.reduceEq, Int.reduceNeg, Int.reduceToNat, Nat.reduceLT, Nat.reduceLeDiff, Nat.reduceEqDiff, ↓reduceIte, true_and, and_true, not_true_eq_false, not_false_eq_true, eq_self, or_true, true_or, or_false, false_or, if_true, if_false, Int.toNat_natCast, w_ite, Nat.add_zero, reduceCtorEq, ne_eq, hc, s143, kx_t hk]
    exact CK.mis h (Rem.refl h) hf.1 hQ
end

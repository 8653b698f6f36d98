/-! a text's rules, taken -/
def PB (t : List Int) (e : Int × Nat) : Prop := 1 ≤ e.1 ∧ e.1 ≤ 4 ∧ e.2 ≤ t.length
theorem pb {t : List Int} {k : Int} {q : Nat} (h1 : 1 ≤ k) (h2 : k ≤ 4) (h : q ≤ t.length) : PB t (k, q) := ⟨h1, h2, h⟩
theorem pNum_bad {t : List Int} {lo hi : Int} {p : Nat} {e : Int × Nat} (h : pNum t lo hi p = .inr e) (hp : p ≤ t.length) : PB t e := by
  unfold pNum at h
  have := skb_le hp
  split at h
  · cases h; exact pb (by decide) (by decide) (this)
  · split at h
    · cases h; exact pb (by decide) (by decide) (this)
    · cases h
theorem pHead_bad {t : List Int} {e : Int × Nat} (h : pHead t = .inr e) : PB t e := by
  unfold pHead at h
  cases hk : kw t kwL 0 with
  | none => rw [hk] at h; cases h; exact pb (by decide) (by decide) (skb_le (Nat.zero_le _))
  | some p =>
    rw [hk] at h
    dsimp only at h
    have h1 := (kw_ok hk (Nat.zero_le _)).1
    cases hn : pNum t 0 1 p with
    | inr e' => rw [hn] at h; cases h; exact pNum_bad hn h1
    | inl x =>
      obtain ⟨l, q⟩ := x
      rw [hn] at h
      dsimp only at h
      split at h
      · cases h
      · cases h; exact pb (by decide) (by decide) (skb_le (pNum_ok hn h1).1)
theorem pTo_bad {t : List Int} {a : Int} {p : Nat} {e : Int × Nat} (h : pTo t a p = .inr e) (hp : p ≤ t.length) : PB t e := by
  unfold pTo at h
  cases hk : kw t kwTo p with
  | none => rw [hk] at h; cases h
  | some q => rw [hk] at h; exact pNum_bad h (kw_ok hk hp).1
theorem pEvery_bad {t : List Int} {p : Nat} {e : Int × Nat} (h : pEvery t p = .inr e) (hp : p ≤ t.length) : PB t e := by
  unfold pEvery at h
  cases hk : kw t kwEv p with
  | none => rw [hk] at h; cases h
  | some q =>
    rw [hk] at h
    dsimp only at h
    have h1 := (kw_ok hk hp).1
    cases hn : pNum t 1 9999 q with
    | inr e' => rw [hn] at h; cases h; exact pNum_bad hn h1
    | inl x =>
      obtain ⟨D, q2⟩ := x
      rw [hn] at h
      dsimp only at h
      have h2 := (pNum_ok hn h1).1
      cases hn2 : pNum t 0 (D - 1) q2 with
      | inr e' => rw [hn2] at h; cases h; exact pNum_bad hn2 h2
      | inl x => obtain ⟨R, q3⟩ := x; rw [hn2] at h; cases h
theorem pRange_bad {t : List Int} {p : Nat} {e : Int × Nat} (h : pRange t p = .inr e) (hp : p ≤ t.length) : PB t e := by
  unfold pRange at h
  cases hn : pNum t 0 999999999 p with
  | inr e' => rw [hn] at h; cases h; exact pNum_bad hn hp
  | inl x =>
    obtain ⟨a, p1⟩ := x
    rw [hn] at h
    dsimp only at h
    have h1 := pNum_ok hn hp
    cases ht : pTo t a p1 with
    | inr e' => rw [ht] at h; cases h; exact pTo_bad ht h1.1
    | inl x =>
      obtain ⟨b, p2⟩ := x
      rw [ht] at h
      dsimp only at h
      have h2 := (pTo_ok ht h1.1 (by omega)).1
      cases he : pEvery t p2 with
      | inr e' => rw [he] at h; cases h; exact pEvery_bad he h2
      | inl x =>
        obtain ⟨⟨D, R⟩, p3⟩ := x
        rw [he] at h
        dsimp only at h
        have h3 := (pEvery_ok he h2).1
        cases hk : kw t kwAs p3 with
        | none => rw [hk] at h; cases h; exact pb (by decide) (by decide) (skb_le h3)
        | some p4 => rw [hk] at h; cases h
theorem pItem_bad {t : List Int} {kd : Int} {s : Nat} {e : Int × Nat} (h : pItem t kd s = .inr e) (hs : s < t.length) : PB t e := by
  unfold pItem at h
  split at h
  · split at h
    · cases h; exact pb (by decide) (by decide) (by omega)
    · cases h
  · split at h
    · cases h
    · cases hn : pNum t 1 999999 (s + 1) with
      | inr e' => rw [hn] at h; cases h; exact pNum_bad hn (by omega)
      | inl x => obtain ⟨v, q⟩ := x; rw [hn] at h; cases h
theorem pItems_bad {t : List Int} : ∀ (f : Nat) (its : List It) (gl : Option Nat) (p : Nat) (e : Int × Nat), pItems t f its gl p = .inr e → p ≤ t.length → (∀ g, gl = some g → g ≤ t.length) → PB t e
  | 0, its, gl, p, e, h, hp, hg => by unfold pItems at h; cases h; exact pb (by decide) (by decide) (hp)
  | f + 1, its, gl, p, e, h, hp, hg => by
    unfold pItems at h
    have hs := skb_le hp
    split at h
    · cases gl with
      | none => cases h
      | some g => cases h; exact pb (by decide) (by decide) (hg g rfl)
    · split at h
      · cases h; exact pb (by decide) (by decide) (hs)
      · rename_i hk
        split at h
        · cases h; exact pb (by decide) (by decide) (hs)
        · split at h
          · cases h; exact pb (by decide) (by decide) (hs)
          · have hb : bt t (skb t p) ≠ -1 := fun e => by rw [e] at hk; exact hk (by decide)
            obtain ⟨b1, b2⟩ := bt_in (z := bt t (skb t p)) rfl hb
            cases hi : pItem t (kdH (bt t (skb t p))) (skb t p) with
            | inr e' => rw [hi] at h; cases h; exact pItem_bad hi b1
            | inl x =>
              obtain ⟨it, q⟩ := x
              rw [hi] at h
              dsimp only at h
              refine pItems_bad f _ _ _ _ h (pItem_ok hi b1 (by rw [b2]) hk).1 (fun g hg' => ?_)
              split at hg'
              · cases hg'; exact hs
              · cases hg'
theorem pRule_bad {t : List Int} {p : Nat} {e : Int × Nat} (h : pRule t p = .inr e) (hp : p ≤ t.length) : PB t e := by
  unfold pRule at h
  cases hr : pRange t p with
  | inr e' => rw [hr] at h; cases h; exact pRange_bad hr hp
  | inl x =>
    obtain ⟨x, q⟩ := x
    rw [hr] at h
    dsimp only at h
    cases hi : pItems t 7 [] none q with
    | inr e' => rw [hi] at h; cases h; exact pItems_bad _ _ _ _ _ hi (pRange_ok hr hp).1 (fun g hg => by cases hg)
    | inl y => obtain ⟨its, q2⟩ := y; rw [hi] at h; cases h
theorem pRules_bad {t : List Int} {room : Nat} : ∀ (f : Nat) (rs : List Rl) (p : Nat) (e : Int × Nat), pRules t room f rs p = .inr e → p ≤ t.length → PB t e
  | 0, rs, p, e, h, hp => by unfold pRules at h; cases h
  | f + 1, rs, p, e, h, hp => by
    unfold pRules at h
    have hs := skb_le hp
    split at h
    · cases h
    · cases hk : kw t kwSay (skb t p) with
      | none => rw [hk] at h; cases h; exact pb (by decide) (by decide) (hs)
      | some q =>
        rw [hk] at h
        dsimp only at h
        split at h
        · cases h; exact pb (by decide) (by decide) (hs)
        · have h1 := (kw_ok hk hs).1
          cases hr : pRule t q with
          | inr e' => rw [hr] at h; cases h; exact pRule_bad hr h1
          | inl x => obtain ⟨ρ, q2⟩ := x; rw [hr] at h; exact pRules_bad f _ _ _ h (pRule_ok hr h1).1
theorem pText_bad {t : List Int} {room : Int → Nat} {e : Int × Nat} (h : pText t room = .inr e) : PB t e := by
  unfold pText at h
  cases hh : pHead t with
  | inr e' => rw [hh] at h; cases h; exact pHead_bad hh
  | inl x =>
    obtain ⟨l, p⟩ := x
    rw [hh] at h
    dsimp only at h
    cases hr : pRules t (room l) 31 [] p with
    | inr e' => rw [hr] at h; cases h; exact pRules_bad _ _ _ _ hr (pHead_ok hh).1
    | inl y => rw [hr] at h; cases h
/-- what text (z = 0) and more (z = 1) answer -/
def troom (s : St) (z : Int) : Int → Nat := fun l => if z = 1 then 30 - (s.2.1.2 l.toNat).length else 30
def rText (s : St) (n z : Int) : Res := if 0 ≤ n ∧ n ≤ s.1.length then (match pText (s.1.take n.toNat) (troom s z) with
  | .inr e => (.inl (e.1 - 10), ([], s.2.1, s.2.2.1, (e.2 : Int), s.2.2.2.2.1, s.2.2.2.2.2))
  | .inl x => (.inl ((((if z = 1 then rlz s x.1 else []) ++ x.2).length : Nat) : Int), ([], setL s.2.1 x.1.toNat ((if z = 1 then rlz s x.1 else []) ++ x.2), (s.2.1 :: s.2.2.1).take 12, -1, s.2.2.2.2.1, s.2.2.2.2.2))) else rWron s
section
variable {d : Nat} {Q : XO → Hp → Prop} {S : SH} {I : MI} {L : ML} {R : MR} {G : MG} {A : Hp}
variable {c lo : Nat} {s : St} {ρ : Nat → List Rl}
/-- the reader has its own cells -/
theorem CP.rd {S' : SH} {I' : MI} {L' : ML} {R' : MR} {G' : MG} {n : Nat} (h : CP S I L R G c lo s ρ) (hT : TkF S I L R G (c + 44) n S' I' L' R' G') : CP S' I' L' R' G' c lo s ρ := by
  obtain ⟨a1, a2, a3, a4, a5, a6, ⟨r1, r2, r3, r4, r5⟩, a8, a9⟩ := h
  obtain ⟨t1, t2, t3, t4, t5, t6⟩ := hT
  have hRF : RF S I L G lo S' I' L' := fun y y1 y2 => ⟨t1 y y2, (t2 y y2 (by omega)).1, (t2 y y2 (by omega)).2.1⟩
  have eI : ∀ a, a < c + 121 → (a < c + 44 ∨ c + 44 + 6 < a) → I' a = I a := fun a h1 h2 => (t2 a (by omega) h2).1
  have eR : ∀ a, a < c + 121 → (a < c + 44 ∨ c + 44 + 6 < a) → R' a = R a := fun a h1 h2 => (t2 a (by omega) h2).2.2
  have hrf : ∀ b n, b < c + 121 → (b < c + 44 ∨ c + 44 + 6 < b) → Ref2 S R G b n lo → Ref2 S' R' G' b n lo := fun b n h1 h2 h => h.keep t1 (by omega) (eR b h1 h2)
  refine ⟨a1.keep (G := G) (by omega) t1 (eR _ (by omega) (by omega)), a2, by omega, ⟨⟨by rw [eI _ (by omega) (by omega)]; exact a4.1.1, by rw [eI _ (by omega) (by omega)]; exact a4.1.2⟩, a4.2⟩, a5.keep r1 hRF (eI _ (by omega) (by omega)) (eI _ (by omega) (by omega)) (eR _ (by omega) (by omega)), a6.keep r2 hRF (fun a h1 h2 => ⟨eI a (by omega) (by omega), eR a (by omega) (by omega)⟩), ⟨hrf _ _ (by omega) (by omega) r1, fun j hj => hrf _ _ (by omega) (by omega) (r2 j hj), hrf _ _ (by omega) (by omega) r3, hrf _ _ (by omega) (by omega) r4, hrf _ _ (by omega) (by omega) r5⟩, fun l hl => (a8 l hl).keep2 (lo := lo) (G := G) (Refs.at2 ⟨r1, r2, r3, r4, r5⟩ hl) hRF (fun a h1 h2 => eI a (by omega) (by omega)) (eR _ (by omega) (by omega)), ?_⟩
  rw [eI c (by omega) (by omega)]; exact a9
/-- the tape is empty then, and the fault's place known -/
theorem CP.tape0 {I' : MI} {q : Int} (h : CP S I L R G c lo s ρ) (e1 : ∀ a, a ≠ c → a ≠ c + 1 → I' a = I a) (e2 : I' (c + 1) 1 = w 0) (e3 : I' c 10 = w q) (e4 : I' c 11 = I c 11) (e5 : I' c 12 = I c 12) (q1 : -1 ≤ q) (q2 : q ≤ 400) : CP S I' L R G c lo ([], s.2.1, s.2.2.1, q, s.2.2.2.2.1, s.2.2.2.2.2) ρ := by
  obtain ⟨a1, a2, a3, a4, a5, a6, a7, a8, a9⟩ := h
  have hRF : RF S I L G lo S I' L := fun y y1 y2 => ⟨rfl, e1 y (by omega) (by omega), rfl⟩
  refine ⟨a1, a2, a3, ⟨⟨e2, fun i hi => nomatch hi⟩, Nat.zero_le _, fun b hb => nomatch hb⟩, a5.keep a7.1 hRF (e1 _ (by omega) (by omega)) (e1 _ (by omega) (by omega)) rfl, a6.keep a7.2.1 hRF (fun a h1 h2 => ⟨e1 a (by omega) (by omega), rfl⟩), a7, fun l hl => (a8 l hl).keep2 (lo := lo) (G := G) (a7.at2 hl) hRF (fun a h1 h2 => e1 a (by omega) (by omega)) rfl, e3, q1, q2, by rw [e4]; exact a9.2.2.2.1, by rw [e5]; exact a9.2.2.2.2.1, a9.2.2.2.2.2⟩
theorem setL_setL {k : Bk} {l : Nat} {a b : List Rl} : setL (setL k l a) l b = setL k l b := by
  unfold setL
  refine Prod.ext rfl (funext fun m => ?_)
  dsimp only
  split <;> rfl
theorem sp_109 {n z : Int} (h : CR S I L R G c lo s) (hst : Strs S I G (c + 44)) (hn : 0 ≤ n ∧ n ≤ s.1.length) (hz : z = 0 ∨ z = 1) (hQ : CK S I L R G c lo Q (outX (rText s n z).1) (rText s n z).2) : XC (d + 6) 109 [.ref c, .int (w n), .int (w z)] (mk S I L R G) Q := by
  have hc := h.1.1
  have hB := h.1.2.2.1
  have hB0 := hB.1
  have hHS := h.1.2.2.2.1
  have hH0 := hHS.1
  have hRd := h.1.2.2.2.2.1
  have hRd0 := hRd.1
  have hTp := h.1.2.1
  have hT0 := hTp.1
  have hlo := h.2.1
  have hlG := h.2.2.1
  obtain ⟨⟨ht1, ht2⟩, ht3, ht4⟩ := h.2.2.2.1
  obtain ⟨b1, b2, b3, b4⟩ := h.bk
  have en : n = (n.toNat : Int) := by omega
  unfold rText at hQ
  rw [if_pos hn] at hQ
  simp (disch := omega) only [q_109_0, q_109_1, q_109_4, q_109_5, q_109_8, q_109_11, q_109_12, q_109_13, q_109_16, q_109_17, q_109_20, q_109_21, q_109_22, q_109_25, q_109_26, q_109_29, q_109_30, q_109_31, q_109_34, q_109_37, q_109_40, q_109_41, q_109_44, q_109_45, q_109_48, q_109_51, q_109_53, q_109_54, q_109_55, q_109_56, q_109_59, q_109_60, q_109_63, q_109_66, q_109_67, q_109_70, q_109_73, q_109_75, q_109_76, q_109_79, q_109_80, q_109_83, q_109_85, q_109_88, q_109_89, q_109_93, q_109_94, q_109_97, q_109_100, q_109_103, q_109_105, q_109_107, q_109_110, q_109_111, q_109_114, q_109_116, q_109_117, q_109_120, q_109_123, q_109_125, q_109_126, q_109_126o, q_109_129, q_109_132, q_109_135, q_109_136, q_109_138, q_109_141, q_109_142, q_109_145, q_109_147, q_109_150, q_109_e, va_rf_s, bz_0, bz_1, bz_ok, bb_ok, Nat.add_assoc, w_lt, w_add, w_sub, w_mul, w_div, em_def, w_eq, w_inT, ↓ilt_t, ↓ilt_f, ↓ieq_t, ↓ieq_f, ntT, w_b, w_ix, kx_v, kx_n, kl_n, kl_i, kl_r, kl_o, inA_i, inA_s, inA_b, inA_z, inA_l, inA_0, inA_4, inA_5, inA_6, inA_7, inA_8, inA_9, inA_10, al_0, al_1, al_2, al_4, al_5, al_98, bsP_2, bsP_3, wr_same, wr_wr, wr_ne, up_same, up_ne, Nat.reduceAdd, Int.reduceAdd, Int.reduceSub, Int.reduceMul, Int.reduceLT, Int.reduceLE, Int.reduceEq, Int.reduceNeg, Int.reduceToNat, Nat.reduceLT, Nat.reduceLeDiff, Nat.reduceEqDiff, ↓reduceIte, true_and, and_true, not_true_eq_false, not_false_eq_true, eq_self, or_true, true_or, or_false, false_or, if_true, if_false, Int.toNat_natCast, w_ite, Nat.add_zero, reduceCtorEq, ne_eq, hc, hT0, hRd0]
  have s65 := fun {d : Nat} {Q : XO → Hp → Prop} => sp_65 (d := d) (Q := Q) (L := L) (R := R) (G := G) (tr := c + 44) (b := c + 2) (bk := c + 3) (m := n.toNat) (n1 := 0) (z := z) (tp := s.1) (cn := fun l => (s.2.1.2 l).length) (by omega) hRd hTp.2 (by omega) hst ht2 ht3 ht4 (by omega) hB (by omega) b4 hz
  rw [← en] at s65
  have hroom : troom s z = (fun l => if z = 1 then 30 - (fun l => (s.2.1.2 l).length) l.toNat else 30) := rfl
  have hfrm : ∀ (S' : SH) (I' : MI) (L' : ML) (R' : MR) (G' : MG) (k : Nat) (I2 : MI) (R2 : MR), k ≤ 30 → TkF S I L R G (c + 44) k S' I' L' R' G' → (∀ a, (a < c ∨ c + 121 ≤ a) → I2 a = I' a ∧ R2 a = R' a) → CFr S I L R G c S' I2 L' R2 G' := by
    intro S' I' L' R' G' k I2 R2 hk hT hf
    obtain ⟨t1, t2, t3, t4, t5, t6⟩ := hT
    exact ⟨t1, fun a ha hb => ⟨by rw [(hf a hb).1, (t2 a ha (by omega)).1], (t2 a ha (by omega)).2.1, by rw [(hf a hb).2, (t2 a ha (by omega)).2.2]⟩, by omega, by omega, t5, by omega, t6⟩
  refine s65 (fun l rs hp S' I' L' R' G' l0 l1 hlen hT e1 e2 e4 hrs => ?_) (fun k q hp m S' I' L' R' G' hm hT e3 e4 => ?_)
  · rw [← hroom] at hp
    rw [hp] at hQ
    dsimp only at hQ
    have h1 := h.cp.rd hT
    have hl2 : l.toNat < 2 := by omega
    have el : l = (l.toNat : Int) := by omega
    have hcS := h1.1
    have hc' := hcS.1
    have hB' := hcS.2.2.1
    have hB0' := hB'.1
    have hH0' := hcS.2.2.2.1.1
    have hRd' := hcS.2.2.2.2.1
    have hRd0' := hRd'.1
    have hT0' := hcS.2.1.1
    simp (disch := omega) only [q_109_0, q_109_1, q_109_4, q_109_5, q_109_8, q_109_11, q_109_12, q_109_13, q_109_16, q_109_17, q_109_20, q_109_21, q_109_22, q_109_25, q_109_26, q_109_29, q_109_30, q_109_31, q_109_34, q_109_37, q_109_40, q_109_41, q_109_44, q_109_45, q_109_48, q_109_51, q_109_53, q_109_54, q_109_55, q_109_56, q_109_59, q_109_60, q_109_63, q_109_66, q_109_67, q_109_70, q_109_73, q_109_75, q_109_76, q_109_79, q_109_80, q_109_83, q_109_85, q_109_88, q_109_89, q_109_93, q_109_94, q_109_97, q_109_100, q_109_103, q_109_105, q_109_107, q_109_110, q_109_111, q_109_114, q_109_116, q_109_117, q_109_120, q_109_123, q_109_125, q_109_126, q_109_126o, q_109_129, q_109_132, q_109_135, q_109_136, q_109_138, q_109_141, q_109_142, q_109_145, q_109_147, q_109_150, q_109_e, va_rf_s, bz_0, bz_1, bz_ok, bb_ok, Nat.add_assoc, w_lt, w_add, w_sub, w_mul, w_div, em_def, w_eq, w_inT, ↓ilt_t, ↓ilt_f, ↓ieq_t, ↓ieq_f, ntT, w_b, w_ix, kx_v, kx_n, kl_n, kl_i, kl_r, kl_o, inA_i, inA_s, inA_b, inA_z, inA_l, inA_0, inA_4, inA_5, inA_6, inA_7, inA_8, inA_9, inA_10, al_0, al_1, al_2, al_4, al_5, al_98, bsP_2, bsP_3, wr_same, wr_wr, wr_ne, up_same, up_ne, Nat.reduceAdd, Int.reduceAdd, Int.reduceSub, Int.reduceMul, Int.reduceLT, Int.reduceLE, Int.reduceEq, Int.reduceNeg, Int.reduceToNat, Nat.reduceLT, Nat.reduceLeDiff, Nat.reduceEqDiff, ↓reduceIte, true_and, and_true, not_true_eq_false, not_false_eq_true, eq_self, or_true, true_or, or_false, false_or, if_true, if_false, Int.toNat_natCast, w_ite, Nat.add_zero, reduceCtorEq, ne_eq, hc', hT0', hRd0', e4]
    -- the tape is empty, no fault
    have g1 : ∀ a, a ≠ c → a ≠ c + 1 → wr (wr I' (c + 1) (up (I' (c + 1)) 1 (w 0))) c (up (I' c) 10 (w (-1))) a = I' a := fun a h1 h2 => by rw [wr_ne h1, wr_ne h2]
    have g2 : wr (wr I' (c + 1) (up (I' (c + 1)) 1 (w 0))) c (up (I' c) 10 (w (-1))) (c + 1) 1 = w 0 := by rw [wr_ne (by omega), wr_same, up_same]
    have g3 : wr (wr I' (c + 1) (up (I' (c + 1)) 1 (w 0))) c (up (I' c) 10 (w (-1))) c 10 = w (-1) := by rw [wr_same, up_same]
    have g4 : wr (wr I' (c + 1) (up (I' (c + 1)) 1 (w 0))) c (up (I' c) 10 (w (-1))) c 11 = I' c 11 := by rw [wr_same, up_ne (by decide)]
    have g5 : wr (wr I' (c + 1) (up (I' (c + 1)) 1 (w 0))) c (up (I' c) 10 (w (-1))) c 12 = I' c 12 := by rw [wr_same, up_ne (by decide)]
    generalize wr (wr I' (c + 1) (up (I' (c + 1)) 1 (w 0))) c (up (I' c) 10 (w (-1))) = I1 at g1 g2 g3 g4 g5 ⊢
    have h2 := h1.tape0 g1 g2 g3 g4 g5 (by decide) (by decide)
    simp (disch := omega) only [q_109_0, q_109_1, q_109_4, q_109_5, q_109_8, q_109_11, q_109_12, q_109_13, q_109_16, q_109_17, q_109_20, q_109_21, q_109_22, q_109_25, q_109_26, q_109_29, q_109_30, q_109_31, q_109_34, q_109_37, q_109_40, q_109_41, q_109_44, q_109_45, q_109_48, q_109_51, q_109_53, q_109_54, q_109_55, q_109_56, q_109_59, q_109_60, q_109_63, q_109_66, q_109_67, q_109_70, q_109_73, q_109_75, q_109_76, q_109_79, q_109_80, q_109_83, q_109_85, q_109_88, q_109_89, q_109_93, q_109_94, q_109_97, q_109_100, q_109_103, q_109_105, q_109_107, q_109_110, q_109_111, q_109_114, q_109_116, q_109_117, q_109_120, q_109_123, q_109_125, q_109_126, q_109_126o, q_109_129, q_109_132, q_109_135, q_109_136, q_109_138, q_109_141, q_109_142, q_109_145, q_109_147, q_109_150, q_109_e, va_rf_s, bz_0, bz_1, bz_ok, bb_ok, Nat.add_assoc, w_lt, w_add, w_sub, w_mul, w_div, em_def, w_eq, w_inT, ↓ilt_t, ↓ilt_f, ↓ieq_t, ↓ieq_f, ntT, w_b, w_ix, kx_v, kx_n, kl_n, kl_i, kl_r, kl_o, inA_i, inA_s, inA_b, inA_z, inA_l, inA_0, inA_4, inA_5, inA_6, inA_7, inA_8, inA_9, inA_10, al_0, al_1, al_2, al_4, al_5, al_98, bsP_2, bsP_3, wr_same, wr_wr, wr_ne, up_same, up_ne, Nat.reduceAdd, Int.reduceAdd, Int.reduceSub, Int.reduceMul, Int.reduceLT, Int.reduceLE, Int.reduceEq, Int.reduceNeg, Int.reduceToNat, Nat.reduceLT, Nat.reduceLeDiff, Nat.reduceEqDiff, ↓reduceIte, true_and, and_true, not_true_eq_false, not_false_eq_true, eq_self, or_true, true_or, or_false, false_or, if_true, if_false, Int.toNat_natCast, w_ite, Nat.add_zero, reduceCtorEq, ne_eq, hc', hH0']
    refine h2.keepH (fun I2 R2 h3 hf3 => ?_)
    have e1' : I2 (c + 44) 1 = w rs.length := by rw [(hf3 _ (by omega)).1, g1 _ (by omega) (by omega)]; exact e1
    have e2' : I2 (c + 44) 2 = w l := by rw [(hf3 _ (by omega)).1, g1 _ (by omega) (by omega)]; exact e2
    have hfr0 : ∀ a, (a < c ∨ c + 44 ≤ a) → I2 a = I' a ∧ R2 a = R' a := fun a ha => ⟨by rw [(hf3 a (by omega)).1, g1 a (by omega) (by omega)], (hf3 a (by omega)).2⟩
    have hlr : ∀ a, lo ≤ a → I2 a = I' a := fun a ha => (hfr0 a (by omega)).1
    have h30 : (s.2.1.2 l.toNat).length ≤ 30 := (b4 _ hl2).2
    obtain ⟨base, hbase⟩ : ∃ base : List Rl, base = (if z = 1 then rlz s l else []) := ⟨_, rfl⟩
    have hrl : rlz s l = s.2.1.2 l.toNat := rfl
    rw [← hbase] at hQ
    have hb30 : base.length + rs.length ≤ 30 := by
      rw [hbase]
      rcases hz with rfl | rfl
      · rw [if_neg (by decide)] at hlen
        rw [if_neg (by decide), List.length_nil]; omega
      · rw [if_pos rfl] at hlen
        rw [if_pos rfl, hrl]
        have : rs.length ≤ 30 - (s.2.1.2 l.toNat).length := hlen
        omega
    -- the loop over the new rules
    have lp : ∀ (j i : Nat) (I4 : MI) (R4 : MR), i + j = rs.length → CP S' I4 L' R4 G' c lo ([], setL s.2.1 l.toNat (base ++ rs.take i), (s.2.1 :: s.2.2.1).take 12, -1, s.2.2.2.2.1, s.2.2.2.2.2) s.2.1.2 → (∀ a, (a < c ∨ c + 44 ≤ a) → I4 a = I' a ∧ R4 a = R' a) → XX (d + 6) 109 91 [some (.ref c), some (.int (w n)), some (.int (w z)), some (.int (w 1)), some (.int (w l)), some (.int (w i))] [] (mk S' I4 L' R4 G') Q := by
      intro j
      induction j with
      | zero =>
        intro i I4 R4 hi h4 hf4
        have : i = rs.length := by omega
        subst this
        rw [List.take_length] at h4
        have e1'' : I4 (c + 44) 1 = w rs.length := by rw [(hf4 _ (by omega)).1]; exact e1
        rw [q_109_91]
        simp (disch := omega) only [q_109_0, q_109_1, q_109_4, q_109_5, q_109_8, q_109_11, q_109_12, q_109_13, q_109_16, q_109_17, q_109_20, q_109_21, q_109_22, q_109_25, q_109_26, q_109_29, q_109_30, q_109_31, q_109_34, q_109_37, q_109_40, q_109_41, q_109_44, q_109_45, q_109_48, q_109_51, q_109_53, q_109_54, q_109_55, q_109_56, q_109_59, q_109_60, q_109_63, q_109_66, q_109_67, q_109_70, q_109_73, q_109_75, q_109_76, q_109_79, q_109_80, q_109_83, q_109_85, q_109_88, q_109_89, q_109_93, q_109_94, q_109_97, q_109_100, q_109_103, q_109_105, q_109_107, q_109_110, q_109_111, q_109_114, q_109_116, q_109_117, q_109_120, q_109_123, q_109_125, q_109_126, q_109_126o, q_109_129, q_109_132, q_109_135, q_109_136, q_109_138, q_109_141, q_109_142, q_109_145, q_109_147, q_109_150, q_109_e, va_rf_s, bz_0, bz_1, bz_ok, bb_ok, Nat.add_assoc, w_lt, w_add, w_sub, w_mul, w_div, em_def, w_eq, w_inT, ↓ilt_t, ↓ilt_f, ↓ieq_t, ↓ieq_f, ntT, w_b, w_ix, kx_v, kx_n, kl_n, kl_i, kl_r, kl_o, inA_i, inA_s, inA_b, inA_z, inA_l, inA_0, inA_4, inA_5, inA_6, inA_7, inA_8, inA_9, inA_10, al_0, al_1, al_2, al_4, al_5, al_98, bsP_2, bsP_3, wr_same, wr_wr, wr_ne, up_same, up_ne, Nat.reduceAdd, Int.reduceAdd, Int.reduceSub, Int.reduceMul, Int.reduceLT, Int.reduceLE, Int.reduceEq, Int.reduceNeg, Int.reduceToNat, Nat.reduceLT, Nat.reduceLeDiff, Nat.reduceEqDiff, ↓reduceIte, true_and, and_true, not_true_eq_false, not_false_eq_true, eq_self, or_true, true_or, or_false, false_or, if_true, if_false, Int.toNat_natCast, w_ite, Nat.add_zero, reduceCtorEq, ne_eq, hc', hRd0', e1'']
        have s114 := fun {d : Nat} {Q : XO → Hp → Prop} => sp_114 (d := d) (Q := Q) h4 hl2
        rw [← el] at s114
        refine s114 (fun I5 R5 h5 hf5 => ?_)
        have hbk5 : BkL S' I5 L' R5 (c + 3) lo l.toNat (base ++ rs) := by
          have := h5.2.2.2.2.1.2.2.2 l.toNat hl2
          unfold setL at this
          dsimp only at this
          rw [if_pos rfl] at this
          exact this
        have s1 := fun {d : Nat} {Q : XO → Hp → Prop} => sp_1 (d := d) (Q := Q) (I := I5) (L := L') (R := R5) (G := G') hB' hl2 hbk5.1
        rw [← el] at s1
        simp (disch := omega) only [q_109_0, q_109_1, q_109_4, q_109_5, q_109_8, q_109_11, q_109_12, q_109_13, q_109_16, q_109_17, q_109_20, q_109_21, q_109_22, q_109_25, q_109_26, q_109_29, q_109_30, q_109_31, q_109_34, q_109_37, q_109_40, q_109_41, q_109_44, q_109_45, q_109_48, q_109_51, q_109_53, q_109_54, q_109_55, q_109_56, q_109_59, q_109_60, q_109_63, q_109_66, q_109_67, q_109_70, q_109_73, q_109_75, q_109_76, q_109_79, q_109_80, q_109_83, q_109_85, q_109_88, q_109_89, q_109_93, q_109_94, q_109_97, q_109_100, q_109_103, q_109_105, q_109_107, q_109_110, q_109_111, q_109_114, q_109_116, q_109_117, q_109_120, q_109_123, q_109_125, q_109_126, q_109_126o, q_109_129, q_109_132, q_109_135, q_109_136, q_109_138, q_109_141, q_109_142, q_109_145, q_109_147, q_109_150, q_109_e, va_rf_s, bz_0, bz_1, bz_ok, bb_ok, Nat.add_assoc, w_lt, w_add, w_sub, w_mul, w_div, em_def, w_eq, w_inT, ↓ilt_t, ↓ilt_f, ↓ieq_t, ↓ieq_f, ntT, w_b, w_ix, kx_v, kx_n, kl_n, kl_i, kl_r, kl_o, inA_i, inA_s, inA_b, inA_z, inA_l, inA_0, inA_4, inA_5, inA_6, inA_7, inA_8, inA_9, inA_10, al_0, al_1, al_2, al_4, al_5, al_98, bsP_2, bsP_3, wr_same, wr_wr, wr_ne, up_same, up_ne, Nat.reduceAdd, Int.reduceAdd, Int.reduceSub, Int.reduceMul, Int.reduceLT, Int.reduceLE, Int.reduceEq, Int.reduceNeg, Int.reduceToNat, Nat.reduceLT, Nat.reduceLeDiff, Nat.reduceEqDiff, ↓reduceIte, true_and, and_true, not_true_eq_false, not_false_eq_true, eq_self, or_true, true_or, or_false, false_or, if_true, if_false, Int.toNat_natCast, w_ite, Nat.add_zero, reduceCtorEq, ne_eq, hc', hB0', s1]
        refine hQ S' I5 L' R5 G' (h5.cr (fun m hm => ?_)) (hfrm S' I' L' R' G' rs.length I5 R5 (by omega) hT (fun a ha => ⟨by rw [(hf5 a (by omega)).1, (hf4 a (by omega)).1], by rw [(hf5 a (by omega)).2, (hf4 a (by omega)).2]⟩))
        unfold setL
        dsimp only
        by_cases e : m = l.toNat
        · rw [if_pos e, if_pos e, if_pos rfl]
        · rw [if_neg e, if_neg e]
      | succ j ih =>
        intro i I4 R4 hi h4 hf4
        have e1'' : I4 (c + 44) 1 = w rs.length := by rw [(hf4 _ (by omega)).1]; exact e1
        obtain ⟨r, q1, q2, q3, q4⟩ := hrs i (by omega)
        have er : R4 (c + 45) i = some r := by rw [(hf4 _ (by omega)).2]; exact q1
        have hS1 : S' (c + 45) = some (.inl (4, 30)) := hRd'.2.1
        have hrS : S' r = some (.inr 6) := q4.1
        have hb4 := h4.2.2.2.2.1
        have hr4 := h4.2.2.2.2.2.2.1.1
        have hbl : BkL S' I4 L' R4 (c + 3) lo l.toNat (base ++ rs.take i) := by
          have := hb4.2.2.2 l.toNat hl2
          unfold setL at this
          dsimp only at this
          rw [if_pos rfl] at this
          exact this
        have hlb : (base ++ rs.take i).length = base.length + i := by rw [List.length_append, List.length_take]; omega
        have hz4 : I4 (c + 3 + 2) l.toNat = w ((base.length + i : Nat) : Int) := by rw [← hlb]; exact hbl.1
        have s4 := fun {d : Nat} {Q : XO → Hp → Prop} => sp_4 (d := d) (Q := Q) (I := I4) (L := L') (R := R4) (G := G') hB' hl2 hz4 (by omega) hrS
        rw [← el] at s4
        have hv : va_rf (some r) = .ref r := rfl
        rw [q_109_91]
        simp (disch := omega) only [q_109_0, q_109_1, q_109_4, q_109_5, q_109_8, q_109_11, q_109_12, q_109_13, q_109_16, q_109_17, q_109_20, q_109_21, q_109_22, q_109_25, q_109_26, q_109_29, q_109_30, q_109_31, q_109_34, q_109_37, q_109_40, q_109_41, q_109_44, q_109_45, q_109_48, q_109_51, q_109_53, q_109_54, q_109_55, q_109_56, q_109_59, q_109_60, q_109_63, q_109_66, q_109_67, q_109_70, q_109_73, q_109_75, q_109_76, q_109_79, q_109_80, q_109_83, q_109_85, q_109_88, q_109_89, q_109_93, q_109_94, q_109_97, q_109_100, q_109_103, q_109_105, q_109_107, q_109_110, q_109_111, q_109_114, q_109_116, q_109_117, q_109_120, q_109_123, q_109_125, q_109_126, q_109_126o, q_109_129, q_109_132, q_109_135, q_109_136, q_109_138, q_109_141, q_109_142, q_109_145, q_109_147, q_109_150, q_109_e, va_rf_s, bz_0, bz_1, bz_ok, bb_ok, Nat.add_assoc, w_lt, w_add, w_sub, w_mul, w_div, em_def, w_eq, w_inT, ↓ilt_t, ↓ilt_f, ↓ieq_t, ↓ieq_f, ntT, w_b, w_ix, kx_v, kx_n, kl_n, kl_i, kl_r, kl_o, inA_i, inA_s, inA_b, inA_z, inA_l, inA_0, inA_4, inA_5, inA_6, inA_7, inA_8, inA_9, inA_10, al_0, al_1, al_2, al_4, al_5, al_98, bsP_2, bsP_3, wr_same, wr_wr, wr_ne, up_same, up_ne, Nat.reduceAdd, Int.reduceAdd, Int.reduceSub, Int.reduceMul, Int.reduceLT, Int.reduceLE, Int.reduceEq, Int.reduceNeg, Int.reduceToNat, Nat.reduceLT, Nat.reduceLeDiff, Nat.reduceEqDiff, ↓reduceIte, true_and, and_true, not_true_eq_false, not_false_eq_true, eq_self, or_true, true_or, or_false, false_or, if_true, if_false, Int.toNat_natCast, w_ite, Nat.add_zero, reduceCtorEq, ne_eq, hc', hRd0', hB0', hS1, e1'', er, hv]
        refine s4.mpr ?_
        have u1 : ∀ a, a ≠ c + 3 + 2 → wr I4 (c + 3 + 2) (up (I4 (c + 3 + 2)) l.toNat (w (((base.length + i : Nat) : Int) + 1))) a = I4 a := fun a ha => wr_ne ha
        have u2 : wr I4 (c + 3 + 2) (up (I4 (c + 3 + 2)) l.toNat (w (((base.length + i : Nat) : Int) + 1))) (c + 3 + 2) l.toNat = w (((base.length + i : Nat) : Int) + 1) := by rw [wr_same, up_same]
        have u3 : ∀ m, m ≠ l.toNat → wr I4 (c + 3 + 2) (up (I4 (c + 3 + 2)) l.toNat (w (((base.length + i : Nat) : Int) + 1))) (c + 3 + 2) m = I4 (c + 3 + 2) m := fun m hm => by rw [wr_same, up_ne hm]
        generalize wr I4 (c + 3 + 2) (up (I4 (c + 3 + 2)) l.toNat (w (((base.length + i : Nat) : Int) + 1))) = I5 at u1 u2 u3 ⊢
        have v1 : ∀ a, a ≠ c + 3 + 1 → wr R4 (c + 3 + 1) (up (R4 (c + 3 + 1)) (l.toNat * 30 + (base.length + i)) (some r)) a = R4 a := fun a ha => wr_ne ha
        have v2 : wr R4 (c + 3 + 1) (up (R4 (c + 3 + 1)) (l.toNat * 30 + (base.length + i)) (some r)) (c + 3 + 1) (l.toNat * 30 + (base.length + i)) = some r := by rw [wr_same, up_same]
        have v3 : ∀ m, m ≠ l.toNat * 30 + (base.length + i) → wr R4 (c + 3 + 1) (up (R4 (c + 3 + 1)) (l.toNat * 30 + (base.length + i)) (some r)) (c + 3 + 1) m = R4 (c + 3 + 1) m := fun m hm => by rw [wr_same, up_ne hm]
        generalize wr R4 (c + 3 + 1) (up (R4 (c + 3 + 1)) (l.toNat * 30 + (base.length + i)) (some r)) = R5 at v1 v2 v3 ⊢
        have hsnoc : rs.take (i + 1) = rs.take i ++ [rs.getD i rd0] := by
          rw [List.take_add_one, List.getD_eq_getElem?_getD, List.getElem?_eq_getElem (show i < rs.length by omega)]; rfl
        have hl60 : l.toNat * 30 ≤ 30 := by omega
        have hBk : BookIs S' I5 L' R5 (c + 3) lo (setL (setL s.2.1 l.toNat (base ++ rs.take i)) l.toNat (base ++ rs.take (i + 1))) := by
          refine hb4.setL hl2 (by rw [u1 _ (by omega)]) (fun m hm hml => ⟨u3 m hml, fun x hx => v3 _ (by omega)⟩) (fun y hy => u1 y (by omega)) ⟨?_, ?_, fun x hx => ?_⟩
          · rw [u2, hsnoc, ← List.append_assoc, List.length_append, hlb, List.length_cons, List.length_nil]; rfl
          · rw [List.length_append, List.length_take]; omega
          · rw [hsnoc, ← List.append_assoc] at hx ⊢
            rw [List.length_append, hlb, List.length_cons, List.length_nil] at hx
            by_cases cx : x < base.length + i
            · obtain ⟨r', p1, p2, p3⟩ := hbl.2.2 x (by omega)
              refine ⟨r', by rw [v3 _ (by omega)]; exact p1, p2, ?_⟩
              have : ((base ++ rs.take i) ++ [rs.getD i rd0]).getD x rd0 = (base ++ rs.take i).getD x rd0 := by
                rw [List.getD_eq_getElem?_getD, List.getElem?_append_left (by omega), ← List.getD_eq_getElem?_getD]
              rw [this]
              exact p3.keep (fun y y1 y2 => ⟨rfl, u1 y (by omega), rfl⟩)
            · have ex : x = base.length + i := by omega
              subst ex
              refine ⟨r, v2, by omega, ?_⟩
              have : ((base ++ rs.take i) ++ [rs.getD i rd0]).getD (base.length + i) rd0 = rs.getD i rd0 := by
                rw [List.getD_eq_getElem?_getD, List.getElem?_append_right (by omega), hlb, Nat.sub_self]; rfl
              rw [this]
              refine q4.keep (fun y y1 y2 => ⟨rfl, ?_, rfl⟩)
              rw [u1 y (by omega), (hf4 y (by omega)).1]
        have h5 := h4.book (fun a a1 a2 => u1 a (by omega)) (fun a ha => v1 a (by omega)) hBk (fun x hx r' hr' => by
          by_cases cx : x = l.toNat * 30 + (base.length + i)
          · subst cx
            have : R5 (c + 4) (l.toNat * 30 + (base.length + i)) = some r := v2
            rw [this] at hr'
            cases hr'
            exact ⟨by omega, q3, hrS⟩
          · have : R5 (c + 4) x = R4 (c + 4) x := v3 x cx
            rw [this] at hr'
            exact hr4 x hx r' hr')
        rw [setL_setL] at h5
        have ih' := ih (i + 1) I5 R5 (by omega) h5 (fun a ha => ⟨by rw [u1 a (by omega), (hf4 a ha).1], by rw [v1 a (by omega), (hf4 a ha).2]⟩)
        simp only [Int.natCast_add, Int.natCast_one] at ih'
        simp (disch := omega) only [q_109_0, q_109_1, q_109_4, q_109_5, q_109_8, q_109_11, q_109_12, q_109_13, q_109_16, q_109_17, q_109_20, q_109_21, q_109_22, q_109_25, q_109_26, q_109_29, q_109_30, q_109_31, q_109_34, q_109_37, q_109_40, q_109_41, q_109_44, q_109_45, q_109_48, q_109_51, q_109_53, q_109_54, q_109_55, q_109_56, q_109_59, q_109_60, q_109_63, q_109_66, q_109_67, q_109_70, q_109_73, q_109_75, q_109_76, q_109_79, q_109_80, q_109_83, q_109_85, q_109_88, q_109_89, q_109_93, q_109_94, q_109_97, q_109_100, q_109_103, q_109_105, q_109_107, q_109_110, q_109_111, q_109_114, q_109_116, q_109_117, q_109_120, q_109_123, q_109_125, q_109_126, q_109_126o, q_109_129, q_109_132, q_109_135, q_109_136, q_109_138, q_109_141, q_109_142, q_109_145, q_109_147, q_109_150, q_109_e, va_rf_s, bz_0, bz_1, bz_ok, bb_ok, Nat.add_assoc, w_lt, w_add, w_sub, w_mul, w_div, em_def, w_eq, w_inT, ↓ilt_t, ↓ilt_f, ↓ieq_t, ↓ieq_f, ntT, w_b, w_ix, kx_v, kx_n, kl_n, kl_i, kl_r, kl_o, inA_i, inA_s, inA_b, inA_z, inA_l, inA_0, inA_4, inA_5, inA_6, inA_7, inA_8, inA_9, inA_10, al_0, al_1, al_2, al_4, al_5, al_98, bsP_2, bsP_3, wr_same, wr_wr, wr_ne, up_same, up_ne, Nat.reduceAdd, Int.reduceAdd, Int.reduceSub, Int.reduceMul, Int.reduceLT, Int.reduceLE, Int.reduceEq, Int.reduceNeg, Int.reduceToNat, Nat.reduceLT, Nat.reduceLeDiff, Nat.reduceEqDiff, ↓reduceIte, true_and, and_true, not_true_eq_false, not_false_eq_true, eq_self, or_true, true_or, or_false, false_or, if_true, if_false, Int.toNat_natCast, w_ite, Nat.add_zero, reduceCtorEq, ne_eq]
        exact ih'
    rcases hz with rfl | rfl
    · rw [if_neg (by decide)] at hbase
      subst hbase
      have s3 := fun {d : Nat} {Q : XO → Hp → Prop} => sp_3 (d := d) (Q := Q) (I := I2) (L := L') (R := R2) (G := G') hB' hl2
      rw [← el] at s3
      simp (disch := omega) only [q_109_0, q_109_1, q_109_4, q_109_5, q_109_8, q_109_11, q_109_12, q_109_13, q_109_16, q_109_17, q_109_20, q_109_21, q_109_22, q_109_25, q_109_26, q_109_29, q_109_30, q_109_31, q_109_34, q_109_37, q_109_40, q_109_41, q_109_44, q_109_45, q_109_48, q_109_51, q_109_53, q_109_54, q_109_55, q_109_56, q_109_59, q_109_60, q_109_63, q_109_66, q_109_67, q_109_70, q_109_73, q_109_75, q_109_76, q_109_79, q_109_80, q_109_83, q_109_85, q_109_88, q_109_89, q_109_93, q_109_94, q_109_97, q_109_100, q_109_103, q_109_105, q_109_107, q_109_110, q_109_111, q_109_114, q_109_116, q_109_117, q_109_120, q_109_123, q_109_125, q_109_126, q_109_126o, q_109_129, q_109_132, q_109_135, q_109_136, q_109_138, q_109_141, q_109_142, q_109_145, q_109_147, q_109_150, q_109_e, va_rf_s, bz_0, bz_1, bz_ok, bb_ok, Nat.add_assoc, w_lt, w_add, w_sub, w_mul, w_div, em_def, w_eq, w_inT, ↓ilt_t, ↓ilt_f, ↓ieq_t, ↓ieq_f, ntT, w_b, w_ix, kx_v, kx_n, kl_n, kl_i, kl_r, kl_o, inA_i, inA_s, inA_b, inA_z, inA_l, inA_0, inA_4, inA_5, inA_6, inA_7, inA_8, inA_9, inA_10, al_0, al_1, al_2, al_4, al_5, al_98, bsP_2, bsP_3, wr_same, wr_wr, wr_ne, up_same, up_ne, Nat.reduceAdd, Int.reduceAdd, Int.reduceSub, Int.reduceMul, Int.reduceLT, Int.reduceLE, Int.reduceEq, Int.reduceNeg, Int.reduceToNat, Nat.reduceLT, Nat.reduceLeDiff, Nat.reduceEqDiff, ↓reduceIte, true_and, and_true, not_true_eq_false, not_false_eq_true, eq_self, or_true, true_or, or_false, false_or, if_true, if_false, Int.toNat_natCast, w_ite, Nat.add_zero, reduceCtorEq, ne_eq, hc', hRd0', hB0', e2']
      refine s3.mpr ?_
      have u1 : ∀ a, a ≠ c + 3 + 2 → wr I2 (c + 3 + 2) (up (I2 (c + 3 + 2)) l.toNat (w 0)) a = I2 a := fun a ha => wr_ne ha
      have u2 : wr I2 (c + 3 + 2) (up (I2 (c + 3 + 2)) l.toNat (w 0)) (c + 3 + 2) l.toNat = w 0 := by rw [wr_same, up_same]
      have u3 : ∀ m, m ≠ l.toNat → wr I2 (c + 3 + 2) (up (I2 (c + 3 + 2)) l.toNat (w 0)) (c + 3 + 2) m = I2 (c + 3 + 2) m := fun m hm => by rw [wr_same, up_ne hm]
      generalize wr I2 (c + 3 + 2) (up (I2 (c + 3 + 2)) l.toNat (w 0)) = I5 at u1 u2 u3 ⊢
      have hb3 := h3.2.2.2.2.1
      have h4 := h3.book (k := setL s.2.1 l.toNat ([] ++ rs.take 0)) (fun a a1 a2 => u1 a (by omega)) (fun _ _ => rfl) (hb3.setL hl2 (by rw [u1 _ (by omega)]) (fun m hm hml => ⟨u3 m hml, fun x hx => rfl⟩) (fun y hy => u1 y (by omega)) ⟨(by rw [u2, List.take_zero]; rfl), by rw [List.take_zero]; exact Nat.zero_le _, fun x hx => by rw [List.take_zero] at hx; exact nomatch hx⟩) h3.2.2.2.2.2.2.1.1
      simp (disch := omega) only [q_109_0, q_109_1, q_109_4, q_109_5, q_109_8, q_109_11, q_109_12, q_109_13, q_109_16, q_109_17, q_109_20, q_109_21, q_109_22, q_109_25, q_109_26, q_109_29, q_109_30, q_109_31, q_109_34, q_109_37, q_109_40, q_109_41, q_109_44, q_109_45, q_109_48, q_109_51, q_109_53, q_109_54, q_109_55, q_109_56, q_109_59, q_109_60, q_109_63, q_109_66, q_109_67, q_109_70, q_109_73, q_109_75, q_109_76, q_109_79, q_109_80, q_109_83, q_109_85, q_109_88, q_109_89, q_109_93, q_109_94, q_109_97, q_109_100, q_109_103, q_109_105, q_109_107, q_109_110, q_109_111, q_109_114, q_109_116, q_109_117, q_109_120, q_109_123, q_109_125, q_109_126, q_109_126o, q_109_129, q_109_132, q_109_135, q_109_136, q_109_138, q_109_141, q_109_142, q_109_145, q_109_147, q_109_150, q_109_e, va_rf_s, bz_0, bz_1, bz_ok, bb_ok, Nat.add_assoc, w_lt, w_add, w_sub, w_mul, w_div, em_def, w_eq, w_inT, ↓ilt_t, ↓ilt_f, ↓ieq_t, ↓ieq_f, ntT, w_b, w_ix, kx_v, kx_n, kl_n, kl_i, kl_r, kl_o, inA_i, inA_s, inA_b, inA_z, inA_l, inA_0, inA_4, inA_5, inA_6, inA_7, inA_8, inA_9, inA_10, al_0, al_1, al_2, al_4, al_5, al_98, bsP_2, bsP_3, wr_same, wr_wr, wr_ne, up_same, up_ne, Nat.reduceAdd, Int.reduceAdd, Int.reduceSub, Int.reduceMul, Int.reduceLT, Int.reduceLE, Int.reduceEq, Int.reduceNeg, Int.reduceToNat, Nat.reduceLT, Nat.reduceLeDiff, Nat.reduceEqDiff, ↓reduceIte, true_and, and_true, not_true_eq_false, not_false_eq_true, eq_self, or_true, true_or, or_false, false_or, if_true, if_false, Int.toNat_natCast, w_ite, Nat.add_zero, reduceCtorEq, ne_eq]
      exact lp rs.length 0 I5 R2 (by omega) h4 (fun a ha => ⟨by rw [u1 a (by omega), (hfr0 a ha).1], (hfr0 a ha).2⟩)
    · rw [if_pos rfl] at hbase
      simp (disch := omega) only [q_109_0, q_109_1, q_109_4, q_109_5, q_109_8, q_109_11, q_109_12, q_109_13, q_109_16, q_109_17, q_109_20, q_109_21, q_109_22, q_109_25, q_109_26, q_109_29, q_109_30, q_109_31, q_109_34, q_109_37, q_109_40, q_109_41, q_109_44, q_109_45, q_109_48, q_109_51, q_109_53, q_109_54, q_109_55, q_109_56, q_109_59, q_109_60, q_109_63, q_109_66, q_109_67, q_109_70, q_109_73, q_109_75, q_109_76, q_109_79, q_109_80, q_109_83, q_109_85, q_109_88, q_109_89, q_109_93, q_109_94, q_109_97, q_109_100, q_109_103, q_109_105, q_109_107, q_109_110, q_109_111, q_109_114, q_109_116, q_109_117, q_109_120, q_109_123, q_109_125, q_109_126, q_109_126o, q_109_129, q_109_132, q_109_135, q_109_136, q_109_138, q_109_141, q_109_142, q_109_145, q_109_147, q_109_150, q_109_e, va_rf_s, bz_0, bz_1, bz_ok, bb_ok, Nat.add_assoc, w_lt, w_add, w_sub, w_mul, w_div, em_def, w_eq, w_inT, ↓ilt_t, ↓ilt_f, ↓ieq_t, ↓ieq_f, ntT, w_b, w_ix, kx_v, kx_n, kl_n, kl_i, kl_r, kl_o, inA_i, inA_s, inA_b, inA_z, inA_l, inA_0, inA_4, inA_5, inA_6, inA_7, inA_8, inA_9, inA_10, al_0, al_1, al_2, al_4, al_5, al_98, bsP_2, bsP_3, wr_same, wr_wr, wr_ne, up_same, up_ne, Nat.reduceAdd, Int.reduceAdd, Int.reduceSub, Int.reduceMul, Int.reduceLT, Int.reduceLE, Int.reduceEq, Int.reduceNeg, Int.reduceToNat, Nat.reduceLT, Nat.reduceLeDiff, Nat.reduceEqDiff, ↓reduceIte, true_and, and_true, not_true_eq_false, not_false_eq_true, eq_self, or_true, true_or, or_false, false_or, if_true, if_false, Int.toNat_natCast, w_ite, Nat.add_zero, reduceCtorEq, ne_eq, hc', hRd0', hB0', e2']
      have h4 : CP S' I2 L' R2 G' c lo ([], setL s.2.1 l.toNat (base ++ rs.take 0), (s.2.1 :: s.2.2.1).take 12, -1, s.2.2.2.2.1, s.2.2.2.2.2) s.2.1.2 := by
        rw [List.take_zero, List.append_nil, hbase, hrl, setL_self]
        exact h3
      exact lp rs.length 0 I2 R2 (by omega) h4 hfr0
  · rw [← hroom] at hp
    rw [hp] at hQ
    dsimp only at hQ
    have hbad := pText_bad hp
    have hq : q ≤ 400 := by
      have := hbad.2.2
      rw [List.length_take] at this
      show q ≤ 400
      have e : (k, q).2 = q := rfl
      rw [e] at this
      omega
    have h1 := h.cp.rd hT
    have hcS := h1.1
    have hc' := hcS.1
    have hRd0' := hcS.2.2.2.2.1.1
    have hT0' := hcS.2.1.1
    simp (disch := omega) only [q_109_0, q_109_1, q_109_4, q_109_5, q_109_8, q_109_11, q_109_12, q_109_13, q_109_16, q_109_17, q_109_20, q_109_21, q_109_22, q_109_25, q_109_26, q_109_29, q_109_30, q_109_31, q_109_34, q_109_37, q_109_40, q_109_41, q_109_44, q_109_45, q_109_48, q_109_51, q_109_53, q_109_54, q_109_55, q_109_56, q_109_59, q_109_60, q_109_63, q_109_66, q_109_67, q_109_70, q_109_73, q_109_75, q_109_76, q_109_79, q_109_80, q_109_83, q_109_85, q_109_88, q_109_89, q_109_93, q_109_94, q_109_97, q_109_100, q_109_103, q_109_105, q_109_107, q_109_110, q_109_111, q_109_114, q_109_116, q_109_117, q_109_120, q_109_123, q_109_125, q_109_126, q_109_126o, q_109_129, q_109_132, q_109_135, q_109_136, q_109_138, q_109_141, q_109_142, q_109_145, q_109_147, q_109_150, q_109_e, va_rf_s, bz_0, bz_1, bz_ok, bb_ok, Nat.add_assoc, w_lt, w_add, w_sub, w_mul, w_div, em_def, w_eq, w_inT, ↓ilt_t, ↓ilt_f, ↓ieq_t, ↓ieq_f, ntT, w_b, w_ix, kx_v, kx_n, kl_n, kl_i, kl_r, kl_o, inA_i, inA_s, inA_b, inA_z, inA_l, inA_0, inA_4, inA_5, inA_6, inA_7, inA_8, inA_9, inA_10, al_0, al_1, al_2, al_4, al_5, al_98, bsP_2, bsP_3, wr_same, wr_wr, wr_ne, up_same, up_ne, Nat.reduceAdd, Int.reduceAdd, Int.reduceSub, Int.reduceMul, Int.reduceLT, Int.reduceLE, Int.reduceEq, Int.reduceNeg, Int.reduceToNat, Nat.reduceLT, Nat.reduceLeDiff, Nat.reduceEqDiff, ↓reduceIte, true_and, and_true, not_true_eq_false, not_false_eq_true, eq_self, or_true, true_or, or_false, false_or, if_true, if_false, Int.toNat_natCast, w_ite, Nat.add_zero, reduceCtorEq, ne_eq, hc', hT0', hRd0', e4, e3]
    have g1 : ∀ a, a ≠ c → a ≠ c + 1 → wr (wr I' (c + 1) (up (I' (c + 1)) 1 (w 0))) c (up (I' c) 10 (w q)) a = I' a := fun a h1 h2 => by rw [wr_ne h1, wr_ne h2]
    have g2 : wr (wr I' (c + 1) (up (I' (c + 1)) 1 (w 0))) c (up (I' c) 10 (w q)) (c + 1) 1 = w 0 := by rw [wr_ne (by omega), wr_same, up_same]
    have g3 : wr (wr I' (c + 1) (up (I' (c + 1)) 1 (w 0))) c (up (I' c) 10 (w q)) c 10 = w q := by rw [wr_same, up_same]
    have g4 : wr (wr I' (c + 1) (up (I' (c + 1)) 1 (w 0))) c (up (I' c) 10 (w q)) c 11 = I' c 11 := by rw [wr_same, up_ne (by decide)]
    have g5 : wr (wr I' (c + 1) (up (I' (c + 1)) 1 (w 0))) c (up (I' c) 10 (w q)) c 12 = I' c 12 := by rw [wr_same, up_ne (by decide)]
    generalize wr (wr I' (c + 1) (up (I' (c + 1)) 1 (w 0))) c (up (I' c) 10 (w q)) = I1 at g1 g2 g3 g4 g5 ⊢
    have h2 := h1.tape0 g1 g2 g3 g4 g5 (by omega) (by omega)
    exact hQ S' I1 L' R' G' (h2.cr (fun _ _ => rfl)) (hfrm S' I' L' R' G' m I1 R' hm hT (fun a ha => ⟨g1 a (by omega) (by omega), rfl⟩))
theorem sp_106 {n : Int} (h : CR S I L R G c lo s) (hf : few s) (hst : Strs S I G (c + 44)) (hn : B32 n) (hQ : CK S I L R G c lo Q (outX (rText s n 0).1) (rText s n 0).2) : XC (d + 70) 106 [.ref c, .int (w n)] (mk S I L R G) Q := by
  have hc := h.1.1
  have hk : t_han 106 = [] := rfl
  have hT0 := h.1.2.1.1
  obtain ⟨⟨ht1, ht2⟩, ht3, ht4⟩ := h.2.2.2.1
  by_cases cn : 0 ≤ n ∧ n ≤ s.1.length
  · have s146 := fun {d : Nat} {Q : XO → Hp → Prop} => h.in (d := d) (Q := Q) hn (y := 0) (z := s.1.length) (by decide) (by constructor <;> omega) cn
    simp (disch := omega) only [q_106_0, q_106_1, q_106_2, q_106_3, q_106_4, q_106_7, q_106_10, q_106_13, q_106_14, q_106_15, q_106_16, q_106_19, q_106_e, va_rf_s, bz_0, bz_1, bz_ok, bb_ok, Nat.add_assoc, w_lt, w_add, w_sub, w_mul, w_div, em_def, w_eq, w_inT, ↓ilt_t, ↓ilt_f, ↓ieq_t, ↓ieq_f, ntT, w_b, w_ix, kx_v, kx_n, kl_n, kl_i, kl_r, kl_o, inA_i, inA_s, inA_b, inA_z, inA_l, inA_0, inA_4, inA_5, inA_6, inA_7, inA_8, inA_9, inA_10, al_0, al_1, al_2, al_4, al_5, al_98, bsP_2, bsP_3, wr_same, wr_wr, wr_ne, up_same, up_ne, Nat.reduceAdd, Int.reduceAdd, Int.reduceSub, Int.reduceMul, Int.reduceLT, Int.reduceLE, Int.reduceEq, Int.reduceNeg, Int.reduceToNat, Nat.reduceLT, Nat.reduceLeDiff, Nat.reduceEqDiff, ↓reduceIte, true_and, and_true, not_true_eq_false, not_false_eq_true, eq_self, or_true, true_or, or_false, false_or, if_true, if_false, Int.toNat_natCast, w_ite, Nat.add_zero, reduceCtorEq, ne_eq, hc, hT0, ht1, s146]
    refine sp_109 h hst cn (Or.inl rfl) (fun S' I' L' R' G' h1 h2 => ?_)
    have hfin := hQ S' I' L' R' G' h1 h2
    cases ho : (rText s n 0).1 with
    | inl v => rw [ho] at hfin; unfold outX at hfin ⊢; simp (disch := omega) only [q_106_0, q_106_1, q_106_2, q_106_3, q_106_4, q_106_7, q_106_10, q_106_13, q_106_14, q_106_15, q_106_16, q_106_19, q_106_e, va_rf_s, bz_0, bz_1, bz_ok, bb_ok, Nat.add_assoc, w_lt, w_add, w_sub, w_mul, w_div, em_def, w_eq, w_inT, ↓ilt_t, ↓ilt_f, ↓ieq_t, ↓ieq_f, ntT, w_b, w_ix, kx_v, kx_n, kl_n, kl_i, kl_r, kl_o, inA_i, inA_s, inA_b, inA_z, inA_l, inA_0, inA_4, inA_5, inA_6, inA_7, inA_8, inA_9, inA_10, al_0, al_1, al_2, al_4, al_5, al_98, bsP_2, bsP_3, wr_same, wr_wr, wr_ne, up_same, up_ne, Nat.reduceAdd, Int.reduceAdd, Int.reduceSub, Int.reduceMul, Int.reduceLT, Int.reduceLE, Int.reduceEq, Int.reduceNeg, Int.reduceToNat, Nat.reduceLT, Nat.reduceLeDiff, Nat.reduceEqDiff, ↓reduceIte, true_and, and_true, not_true_eq_false, not_false_eq_true, eq_self, or_true, true_or, or_false, false_or, if_true, if_false, Int.toNat_natCast, w_ite, Nat.add_zero, reduceCtorEq, ne_eq]; exact hfin
    | inr E =>
      exfalso
      unfold rText at ho
      rw [if_pos cn] at ho
      split at ho <;> cases ho
  · unfold rText at hQ
    rw [if_neg cn] at hQ
    have s146 := fun {d : Nat} {Q : XO → Hp → Prop} => h.noI (d := d) (Q := Q) hn (y := 0) (z := s.1.length) (by decide) (by constructor <;> omega) cn
    simp (disch := omega) only [q_106_0, q_106_1, q_106_2, q_106_3, q_106_4, q_106_7, q_106_10, q_106_13, q_106_14, q_106_15, q_106_16, q_106_19, q_106_e, va_rf_s, bz_0, bz_1, bz_ok, bb_ok, Nat.add_assoc, w_lt, w_add, w_sub, w_mul, w_div, em_def, w_eq, w_inT, ↓ilt_t, ↓ilt_f, ↓ieq_t, ↓ieq_f, ntT, w_b, w_ix, kx_v, kx_n, kl_n, kl_i, kl_r, kl_o, inA_i, inA_s, inA_b, inA_z, inA_l, inA_0, inA_4, inA_5, inA_6, inA_7, inA_8, inA_9, inA_10, al_0, al_1, al_2, al_4, al_5, al_98, bsP_2, bsP_3, wr_same, wr_wr, wr_ne, up_same, up_ne, Nat.reduceAdd, Int.reduceAdd, Int.reduceSub, Int.reduceMul, Int.reduceLT, Int.reduceLE, Int.reduceEq, Int.reduceNeg, Int.reduceToNat, Nat.reduceLT, Nat.reduceLeDiff, Nat.reduceEqDiff, ↓reduceIte, true_and, and_true, not_true_eq_false, not_false_eq_true, eq_self, or_true, true_or, or_false, false_or, if_true, if_false, Int.toNat_natCast, w_ite, Nat.add_zero, reduceCtorEq, ne_eq, hc, hT0, ht1, s146, kx_t hk]
    exact CK.wro h (Rem.refl h) hf.2 hQ
theorem sp_108 {n : Int} (h : CR S I L R G c lo s) (hf : few s) (hst : Strs S I G (c + 44)) (hn : B32 n) (hQ : CK S I L R G c lo Q (outX (rText s n 1).1) (rText s n 1).2) : XC (d + 70) 108 [.ref c, .int (w n)] (mk S I L R G) Q := by
  have hc := h.1.1
  have hk : t_han 108 = [] := rfl
  have hT0 := h.1.2.1.1
  obtain ⟨⟨ht1, ht2⟩, ht3, ht4⟩ := h.2.2.2.1
  by_cases cn : 0 ≤ n ∧ n ≤ s.1.length
  · have s146 := fun {d : Nat} {Q : XO → Hp → Prop} => h.in (d := d) (Q := Q) hn (y := 0) (z := s.1.length) (by decide) (by constructor <;> omega) cn
    simp (disch := omega) only [q_108_0, q_108_1, q_108_2, q_108_3, q_108_4, q_108_7, q_108_10, q_108_13, q_108_14, q_108_15, q_108_16, q_108_19, q_108_e, va_rf_s, bz_0, bz_1, bz_ok, bb_ok, Nat.add_assoc, w_lt, w_add, w_sub, w_mul, w_div, em_def, w_eq, w_inT, ↓ilt_t, ↓ilt_f, ↓ieq_t, ↓ieq_f, ntT, w_b, w_ix, kx_v, kx_n, kl_n, kl_i, kl_r, kl_o, inA_i, inA_s, inA_b, inA_z, inA_l, inA_0, inA_4, inA_5, inA_6, inA_7, inA_8, inA_9, inA_10, al_0, al_1, al_2, al_4, al_5, al_98, bsP_2, bsP_3, wr_same, wr_wr, wr_ne, up_same, up_ne, Nat.reduceAdd, Int.reduceAdd, Int.reduceSub, Int.reduceMul, Int.reduceLT, Int.reduceLE, Int.reduceEq, Int.reduceNeg, Int.reduceToNat, Nat.reduceLT, Nat.reduceLeDiff, Nat.reduceEqDiff, ↓reduceIte, true_and, and_true, not_true_eq_false, not_false_eq_true, eq_self, or_true, true_or, or_false, false_or, if_true, if_false, Int.toNat_natCast, w_ite, Nat.add_zero, reduceCtorEq, ne_eq, hc, hT0, ht1, s146]
    refine sp_109 h hst cn (Or.inr rfl) (fun S' I' L' R' G' h1 h2 => ?_)
    have hfin := hQ S' I' L' R' G' h1 h2
    cases ho : (rText s n 1).1 with
    | inl v => rw [ho] at hfin; unfold outX at hfin ⊢; simp (disch := omega) only [q_108_0, q_108_1, q_108_2, q_108_3, q_108_4, q_108_7, q_108_10, q_108_13, q_108_14, q_108_15, q_108_16, q_108_19, q_108_e, va_rf_s, bz_0, bz_1, bz_ok, bb_ok, Nat.add_assoc, w_lt, w_add, w_sub, w_mul, w_div, em_def, w_eq, w_inT, ↓ilt_t, ↓ilt_f, ↓ieq_t, ↓ieq_f, ntT, w_b, w_ix, kx_v, kx_n, kl_n, kl_i, kl_r, kl_o, inA_i, inA_s, inA_b, inA_z, inA_l, inA_0, inA_4, inA_5, inA_6, inA_7, inA_8, inA_9, inA_10, al_0, al_1, al_2, al_4, al_5, al_98, bsP_2, bsP_3, wr_same, wr_wr, wr_ne, up_same, up_ne, Nat.reduceAdd, Int.reduceAdd, Int.reduceSub, Int.reduceMul, Int.reduceLT, Int.reduceLE, Int.reduceEq, Int.reduceNeg, Int.reduceToNat, Nat.reduceLT, Nat.reduceLeDiff, Nat.reduceEqDiff, ↓reduceIte, true_and, and_true, not_true_eq_false, not_false_eq_true, eq_self, or_true, true_or, or_false, false_or, if_true, if_false, Int.toNat_natCast, w_ite, Nat.add_zero, reduceCtorEq, ne_eq]; exact hfin
    | inr E =>
      exfalso
      unfold rText at ho
      rw [if_pos cn] at ho
      split at ho <;> cases ho
  · unfold rText at hQ
    rw [if_neg cn] at hQ
    have s146 := fun {d : Nat} {Q : XO → Hp → Prop} => h.noI (d := d) (Q := Q) hn (y := 0) (z := s.1.length) (by decide) (by constructor <;> omega) cn
    simp (disch := omega) only [q_108_0, q_108_1, q_108_2, q_108_3, q_108_4, q_108_7, q_108_10, q_108_13, q_108_14, q_108_15, q_108_16, q_108_19, q_108_e, va_rf_s, bz_0, bz_1, bz_ok, bb_ok, Nat.add_assoc, w_lt, w_add, w_sub, w_mul, w_div, em_def, w_eq, w_inT, ↓ilt_t, ↓ilt_f, ↓ieq_t, ↓ieq_f, ntT, w_b, w_ix, kx_v, kx_n, kl_n, kl_i, kl_r, kl_o, inA_i, inA_s, inA_b, inA_z, inA_l, inA_0, inA_4, inA_5, inA_6, inA_7, inA_8, inA_9, inA_10, al_0, al_1, al_2, al_4, al_5, al_98, bsP_2, bsP_3, wr_same, wr_wr, wr_ne, up_same, up_ne, Nat.reduceAdd, Int.reduceAdd, Int.reduceSub, Int.reduceMul, Int.reduceLT, Int.reduceLE, Int.reduceEq, Int.reduceNeg, Int.reduceToNat, Nat.reduceLT, Nat.reduceLeDiff, Nat.reduceEqDiff, ↓reduceIte, true_and, and_true, not_true_eq_false, not_false_eq_true, eq_self, or_true, true_or, or_false, false_or, if_true, if_false, Int.toNat_natCast, w_ite, Nat.add_zero, reduceCtorEq, ne_eq, hc, hT0, ht1, s146, kx_t hk]
    exact CK.wro h (Rem.refl h) hf.2 hQ
end

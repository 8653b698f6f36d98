/-! the count of words: one word -/
theorem w_32767 (x : Int) : w x &&& w 32767 = w (x % 32768) := by
  apply Int32.toBitVec_inj.mp
  show BitVec.ofInt 32 x &&& BitVec.ofInt 32 32767 = BitVec.ofInt 32 (x % 32768)
  apply BitVec.eq_of_toNat_eq
  rw [BitVec.toNat_and, BitVec.toNat_ofInt, BitVec.toNat_ofInt, BitVec.toNat_ofInt]
  show (x % 4294967296).toNat &&& 2 ^ 15 - 1 = (x % 32768 % 4294967296).toNat
  rw [Nat.and_two_pow_sub_one_eq_mod]
  omega
def hsF (h : Int32) : List Int → Int32
  | [] => h
  | b :: r => hsF (w 31 * h + w b) r
def hsX (h : Int32) : Int32 := h ^^^ (h.toUInt32 >>> ((w 15).toUInt32 &&& Int32.toUInt32 31)).toInt32
def hsn (x : List Int) : Nat := ((hsX (hsF (w 0) x)).toInt % 32768).toNat
theorem hsn_lt {x : List Int} : hsn x < 32768 := by unfold hsn; omega
theorem hsX_w {x : List Int} : hsX (hsF (w 0) x) &&& w 32767 = w (hsn x) := by
  rw [← w_self (hsX (hsF (w 0) x)), w_32767]
  congr 1
  unfold hsn
  omega
def WcS (S : SH) (u : Nat) : Prop := S u = some (.inr 10) ∧ S (u + 1) = some (.inl (0, 32768)) ∧ S (u + 2) = some (.inl (0, 32768)) ∧ S (u + 3) = some (.inl (0, 32768))
/-- the table's places -/
def HTab (I : MI) (u : Nat) (E : Nat → Option Ent) : Prop := ∀ s, s < 32768 → (E s = none → I (u + 3) s = w 0) ∧ ∀ e, E s = some e → I (u + 3) s = w e.2.2 ∧ I (u + 1) s = w e.2.1 ∧ I (u + 2) s = w e.1.length ∧ 1 ≤ e.2.2
def bLet (x : List Int) : Prop := ∀ b ∈ x, 97 ≤ b ∧ b ≤ 122
theorem bLet.bd {x : List Int} (h : bLet x) : ∀ b ∈ x, 0 ≤ b ∧ b < 256 := fun b hb => by have := h b hb; omega
section
variable {d : Nat} {Q : XO → Hp → Prop} {S : SH} {I : MI} {L : ML} {R : MR} {G : MG} {A : Hp}
theorem sp_99 {u b n1 un p : Nat} {E : Nat → Option Ent} {W : List (List Int)} {x : List Int} {P : List Int → Nat → Prop} (hS : WcS S u) (hb : S b = some (.inl (2, n1))) (hn1 : n1 < 1000000) (hub : b < u ∨ u + 3 < b)
    (hPx : P x p) (hP : ∀ y q, P y q → Txt (I b) q y ∧ q + y.length ≤ n1) (hT : HTab I u E) (hE : ∀ s e, E s = some e → P e.1 e.2.1) (hG : HGood hsn E W) (hu : HDist W un) (h3 : I u 3 = w un) (hun : un < 32768) (hx : bLet x) (hW : ∀ y ∈ W, bLet y) (hc : W.length < 200000)
    (hQ : ∀ (I' : MI) (E' : Nat → Option Ent) (un' : Nat), (∀ a, (a < u ∨ u + 3 < a) → I' a = I a) → HTab I' u E' → (∀ s e, E' s = some e → P e.1 e.2.1) → HGood hsn E' (W ++ [x]) → HDist (W ++ [x]) un' → I' u 3 = w un' → Q (.inl none) (mk S I' L R G)) :
    XC (d + 1) 99 [.ref u, .ref b, .int (w p), .int (w x.length)] (mk S I L R G) Q := by
  obtain ⟨g0, g1, g2, g3⟩ := id hS
  obtain ⟨hxT, hxp⟩ := hP x p hPx
  obtain ⟨D, d1, d2, d3⟩ := hu
  obtain ⟨j, j1, j2, j3⟩ := hprobe hG d2 (by omega) x
  have hE1 := hG.1
  have hlt := hsn_lt (x := x)
  have pb : ∀ (k t : Nat), t + k = j → XX (d + 1) 99 56 [some (.ref u), some (.ref b), some (.int (w p)), some (.int (w x.length)), some (.int (hsF (w 0) x)), some (.int (w ((hsn x + t) % 32768 : Nat))), some (.int (w t))] [] (mk S I L R G) Q := by
    intro k
    induction k with
    | zero =>
      intro t ht
      have : t = j := by omega
      subst this
      have hsl : (hsn x + t) % 32768 < 32768 := Nat.mod_lt _ (by decide)
      rw [q_99_56]
      rcases j3 with ⟨c, e, e1, e2⟩ | ⟨c, e1⟩
      · have he := hE1 _ _ e1
        obtain ⟨t1, t2, t3, t4⟩ := (hT _ hsl).2 e e1
        obtain ⟨p1, p2⟩ := hP _ _ (hE _ _ e1)
        have h200 : e.2.2 < 200000 := by have := List.count_le_length (a := e.1) (l := W); omega
        have hold' := hold hG e1 e2
        have l0 : lexc e.1 x = 0 := by
          rw [e2]
          exact (lexc_0 hx.bd hx.bd).mpr rfl
        have scmp := fun {d : Nat} {Q : XO → Hp → Prop} => sp_cmp (d := d) (Q := Q) (I := I) (L := L) (R := R) (G := G) hb hb (by omega) (by omega) p2 hxp p1 hxT
        rw [l0] at scmp
        generalize hs0 : (hsn x + t) % 32768 = s0 at *
        simp (disch := omega) only [q_99_0, q_99_1, q_99_3, q_99_4, q_99_8, q_99_9, q_99_10, q_99_11, q_99_14, q_99_16, q_99_17, q_99_18, q_99_21, q_99_23, q_99_25, q_99_26, q_99_27, q_99_29, q_99_30, q_99_31, q_99_33, q_99_36, q_99_39, q_99_41, q_99_43, q_99_45, q_99_46, q_99_47, q_99_50, q_99_51, q_99_53, q_99_54, q_99_58, q_99_60, q_99_63, q_99_64, q_99_67, q_99_69, q_99_70, q_99_73, q_99_74, q_99_77, q_99_79, q_99_80, q_99_81, q_99_82, q_99_85, q_99_87, q_99_88, q_99_89, q_99_90, q_99_93, q_99_95, q_99_96, q_99_97, q_99_98, q_99_99, q_99_102, q_99_103, q_99_104, q_99_107, q_99_108, q_99_109, q_99_110, q_99_113, q_99_115, q_99_116, q_99_117, q_99_120, q_99_122, q_99_123, q_99_124, q_99_125, q_99_126, q_99_129, q_99_132, q_99_133, q_99_136, q_99_138, q_99_139, q_99_140, q_99_141, q_99_142, q_99_143, q_99_144, q_99_146, q_99_147, q_99_148, q_99_151, q_99_152, q_99_154, q_99_157, q_99_160, q_99_e, va_rf_s, bz_0, bz_1, bz_ok, bb_ok, Nat.add_assoc, w_lt, w_add, w_sub, w_mul, w_div, em_def, w_eq, w_inT, ↓ilt_t, ↓ilt_f, ↓ieq_t, ↓ieq_f, ntT, w_b, w_ix, kx_v, kx_n, kl_n, kl_i, kl_r, kl_o, inA_i, inA_s, inA_b, inA_z, inA_l, inA_0, inA_4, inA_5, inA_6, inA_7, inA_8, inA_9, inA_10, al_0, al_1, al_2, al_4, al_5, al_98, bsP_2, bsP_3, wr_same, wr_wr, wr_ne, up_same, up_ne, Nat.reduceAdd, Int.reduceAdd, Int.reduceSub, Int.reduceMul, Int.reduceLT, Int.reduceLE, Int.reduceEq, Int.reduceNeg, Int.reduceToNat, Nat.reduceLT, Nat.reduceLeDiff, Nat.reduceEqDiff, ↓reduceIte, true_and, and_true, not_true_eq_false, not_false_eq_true, eq_self, or_true, true_or, or_false, false_or, if_true, if_false, Int.toNat_natCast, w_ite, Nat.add_zero, reduceCtorEq, ne_eq, g0, g1, g2, g3, t1, t2, t3, scmp]
        refine hQ _ _ un (fun a ha => by rw [wr_ne (by omega)]) (fun s hs => ?_) (fun s e' he' => ?_) hold' ⟨D, d1, fun y => ?_, d3⟩ (by rw [wr_ne (by omega)]; exact h3)
        · rw [wr_same, wr_ne (show u + 1 ≠ u + 3 by omega), wr_ne (show u + 2 ≠ u + 3 by omega)]
          by_cases cs : s = s0
          · rw [cs, up_same, up_same]
            refine ⟨(fun h => by cases h), fun e' he' => ?_⟩
            cases he'
            exact ⟨by simp only [Int.natCast_add, Int.natCast_one], t2, by rw [← e2]; exact t3, Nat.le_add_left 1 _⟩
          · rw [up_ne cs, up_ne cs]
            exact hT s hs
        · by_cases cs : s = s0
          · rw [cs, up_same] at he'
            cases he'
            have := hE _ _ e1
            rw [e2] at this
            exact this
          · rw [up_ne cs] at he'
            exact hE _ _ he'
        · rw [d2 y, List.mem_append]
          constructor
          · exact fun h => Or.inl h
          · intro h
            rcases h with h | h
            · exact h
            · have : y = x := by simpa using h
              rw [this]; exact c
      · have t1 := (hT _ hsl).1 e1
        have hnew' := hnew (p := p) hG c j1 j2 e1
        generalize hs0 : (hsn x + t) % 32768 = s0 at *
        simp (disch := omega) only [q_99_0, q_99_1, q_99_3, q_99_4, q_99_8, q_99_9, q_99_10, q_99_11, q_99_14, q_99_16, q_99_17, q_99_18, q_99_21, q_99_23, q_99_25, q_99_26, q_99_27, q_99_29, q_99_30, q_99_31, q_99_33, q_99_36, q_99_39, q_99_41, q_99_43, q_99_45, q_99_46, q_99_47, q_99_50, q_99_51, q_99_53, q_99_54, q_99_58, q_99_60, q_99_63, q_99_64, q_99_67, q_99_69, q_99_70, q_99_73, q_99_74, q_99_77, q_99_79, q_99_80, q_99_81, q_99_82, q_99_85, q_99_87, q_99_88, q_99_89, q_99_90, q_99_93, q_99_95, q_99_96, q_99_97, q_99_98, q_99_99, q_99_102, q_99_103, q_99_104, q_99_107, q_99_108, q_99_109, q_99_110, q_99_113, q_99_115, q_99_116, q_99_117, q_99_120, q_99_122, q_99_123, q_99_124, q_99_125, q_99_126, q_99_129, q_99_132, q_99_133, q_99_136, q_99_138, q_99_139, q_99_140, q_99_141, q_99_142, q_99_143, q_99_144, q_99_146, q_99_147, q_99_148, q_99_151, q_99_152, q_99_154, q_99_157, q_99_160, q_99_e, va_rf_s, bz_0, bz_1, bz_ok, bb_ok, Nat.add_assoc, w_lt, w_add, w_sub, w_mul, w_div, em_def, w_eq, w_inT, ↓ilt_t, ↓ilt_f, ↓ieq_t, ↓ieq_f, ntT, w_b, w_ix, kx_v, kx_n, kl_n, kl_i, kl_r, kl_o, inA_i, inA_s, inA_b, inA_z, inA_l, inA_0, inA_4, inA_5, inA_6, inA_7, inA_8, inA_9, inA_10, al_0, al_1, al_2, al_4, al_5, al_98, bsP_2, bsP_3, wr_same, wr_wr, wr_ne, up_same, up_ne, Nat.reduceAdd, Int.reduceAdd, Int.reduceSub, Int.reduceMul, Int.reduceLT, Int.reduceLE, Int.reduceEq, Int.reduceNeg, Int.reduceToNat, Nat.reduceLT, Nat.reduceLeDiff, Nat.reduceEqDiff, ↓reduceIte, true_and, and_true, not_true_eq_false, not_false_eq_true, eq_self, or_true, true_or, or_false, false_or, if_true, if_false, Int.toNat_natCast, w_ite, Nat.add_zero, reduceCtorEq, ne_eq, g0, g1, g2, g3, t1, h3]
        refine hQ _ _ (un + 1) (fun a ha => by rw [wr_ne (by omega), wr_ne (by omega), wr_ne (by omega), wr_ne (by omega)]) (fun s hs => ?_) (fun s e' he' => ?_) hnew' ⟨x :: D, List.nodup_cons.mpr ⟨fun h => c ((d2 x).mp h), d1⟩, fun y => ?_, by rw [List.length_cons, d3]⟩ (by rw [wr_same, up_same]; simp only [Int.natCast_add, Int.natCast_one])
        · rw [wr_ne (show u + 3 ≠ u by omega), wr_ne (show u + 1 ≠ u by omega), wr_ne (show u + 2 ≠ u by omega), wr_same, wr_ne (show u + 1 ≠ u + 3 by omega), wr_ne (show u + 2 ≠ u + 3 by omega), wr_same, wr_ne (show u + 1 ≠ u + 2 by omega), wr_same]
          by_cases cs : s = s0
          · rw [cs, up_same, up_same, up_same, up_same]
            refine ⟨(fun h => by cases h), fun e' he' => ?_⟩
            cases he'
            exact ⟨rfl, rfl, rfl, Nat.le_refl _⟩
          · rw [up_ne cs, up_ne cs, up_ne cs, up_ne cs]
            exact hT s hs
        · by_cases cs : s = s0
          · rw [cs, up_same] at he'
            cases he'
            exact hPx
          · rw [up_ne cs] at he'
            exact hE _ _ he'
        · rw [List.mem_cons, d2 y, List.mem_append, List.mem_singleton]
          exact Or.comm
    | succ k ih =>
      intro t ht
      have hsl : (hsn x + t) % 32768 < 32768 := Nat.mod_lt _ (by decide)
      obtain ⟨e, e1, e2⟩ := j2 t (by omega)
      have he := hE1 _ _ e1
      obtain ⟨t1, t2, t3, t4⟩ := (hT _ hsl).2 e e1
      obtain ⟨p1, p2⟩ := hP _ _ (hE _ _ e1)
      have h200 : e.2.2 < 200000 := by have := List.count_le_length (a := e.1) (l := W); omega
      have l0 : lexc e.1 x ≠ 0 := fun h => e2 ((lexc_0 (hW _ he.2.1).bd hx.bd).mp h)
      have lb := lexc_bd e.1 x
      have scmp := fun {d : Nat} {Q : XO → Hp → Prop} => sp_cmp (d := d) (Q := Q) (I := I) (L := L) (R := R) (G := G) hb hb (by omega) (by omega) p2 hxp p1 hxT
      have := ih (t + 1) (by omega)
      have e7 : (((hsn x + (t + 1)) % 32768 : Nat) : Int) = (((hsn x + t) % 32768 : Nat) + 1 : Int) % 32768 := by omega
      rw [e7] at this
      generalize hs0 : (hsn x + t) % 32768 = s0 at *
      rw [q_99_56]
      simp only [Int.natCast_add, Int.natCast_one] at this
      simp (disch := omega) only [q_99_0, q_99_1, q_99_3, q_99_4, q_99_8, q_99_9, q_99_10, q_99_11, q_99_14, q_99_16, q_99_17, q_99_18, q_99_21, q_99_23, q_99_25, q_99_26, q_99_27, q_99_29, q_99_30, q_99_31, q_99_33, q_99_36, q_99_39, q_99_41, q_99_43, q_99_45, q_99_46, q_99_47, q_99_50, q_99_51, q_99_53, q_99_54, q_99_58, q_99_60, q_99_63, q_99_64, q_99_67, q_99_69, q_99_70, q_99_73, q_99_74, q_99_77, q_99_79, q_99_80, q_99_81, q_99_82, q_99_85, q_99_87, q_99_88, q_99_89, q_99_90, q_99_93, q_99_95, q_99_96, q_99_97, q_99_98, q_99_99, q_99_102, q_99_103, q_99_104, q_99_107, q_99_108, q_99_109, q_99_110, q_99_113, q_99_115, q_99_116, q_99_117, q_99_120, q_99_122, q_99_123, q_99_124, q_99_125, q_99_126, q_99_129, q_99_132, q_99_133, q_99_136, q_99_138, q_99_139, q_99_140, q_99_141, q_99_142, q_99_143, q_99_144, q_99_146, q_99_147, q_99_148, q_99_151, q_99_152, q_99_154, q_99_157, q_99_160, q_99_e, va_rf_s, bz_0, bz_1, bz_ok, bb_ok, Nat.add_assoc, w_lt, w_add, w_sub, w_mul, w_div, em_def, w_eq, w_inT, ↓ilt_t, ↓ilt_f, ↓ieq_t, ↓ieq_f, ntT, w_b, w_ix, kx_v, kx_n, kl_n, kl_i, kl_r, kl_o, inA_i, inA_s, inA_b, inA_z, inA_l, inA_0, inA_4, inA_5, inA_6, inA_7, inA_8, inA_9, inA_10, al_0, al_1, al_2, al_4, al_5, al_98, bsP_2, bsP_3, wr_same, wr_wr, wr_ne, up_same, up_ne, Nat.reduceAdd, Int.reduceAdd, Int.reduceSub, Int.reduceMul, Int.reduceLT, Int.reduceLE, Int.reduceEq, Int.reduceNeg, Int.reduceToNat, Nat.reduceLT, Nat.reduceLeDiff, Nat.reduceEqDiff, ↓reduceIte, true_and, and_true, not_true_eq_false, not_false_eq_true, eq_self, or_true, true_or, or_false, false_or, if_true, if_false, Int.toNat_natCast, w_ite, Nat.add_zero, reduceCtorEq, ne_eq, g0, g1, g2, g3, t1, t2, t3, scmp, w_32767]
      exact this
  have hl : ∀ (k i : Nat) (h : Int32), i + k = x.length → hsF h (x.drop i) = hsF (w 0) x → XX (d + 1) 99 6 [some (.ref u), some (.ref b), some (.int (w p)), some (.int (w x.length)), some (.int h), some (.int (w (p + i : Nat))), none] [] (mk S I L R G) Q := by
    intro k
    induction k with
    | zero =>
      intro i h hi hh
      rw [List.drop_eq_nil_of_le (by omega)] at hh
      have hh : h = hsF (w 0) x := hh
      subst hh
      have := pb j 0 (by omega)
      rw [show (hsn x + 0) % 32768 = hsn x by omega] at this
      have e : hsX (hsF (w 0) x) &&& w 32767 = w (hsn x) := hsX_w
      unfold hsX at e
      generalize hq : p + i = q
      rw [q_99_6]
      simp (disch := omega) only [q_99_0, q_99_1, q_99_3, q_99_4, q_99_8, q_99_9, q_99_10, q_99_11, q_99_14, q_99_16, q_99_17, q_99_18, q_99_21, q_99_23, q_99_25, q_99_26, q_99_27, q_99_29, q_99_30, q_99_31, q_99_33, q_99_36, q_99_39, q_99_41, q_99_43, q_99_45, q_99_46, q_99_47, q_99_50, q_99_51, q_99_53, q_99_54, q_99_58, q_99_60, q_99_63, q_99_64, q_99_67, q_99_69, q_99_70, q_99_73, q_99_74, q_99_77, q_99_79, q_99_80, q_99_81, q_99_82, q_99_85, q_99_87, q_99_88, q_99_89, q_99_90, q_99_93, q_99_95, q_99_96, q_99_97, q_99_98, q_99_99, q_99_102, q_99_103, q_99_104, q_99_107, q_99_108, q_99_109, q_99_110, q_99_113, q_99_115, q_99_116, q_99_117, q_99_120, q_99_122, q_99_123, q_99_124, q_99_125, q_99_126, q_99_129, q_99_132, q_99_133, q_99_136, q_99_138, q_99_139, q_99_140, q_99_141, q_99_142, q_99_143, q_99_144, q_99_146, q_99_147, q_99_148, q_99_151, q_99_152, q_99_154, q_99_157, q_99_160, q_99_e, va_rf_s, bz_0, bz_1, bz_ok, bb_ok, Nat.add_assoc, w_lt, w_add, w_sub, w_mul, w_div, em_def, w_eq, w_inT, ↓ilt_t, ↓ilt_f, ↓ieq_t, ↓ieq_f, ntT, w_b, w_ix, kx_v, kx_n, kl_n, kl_i, kl_r, kl_o, inA_i, inA_s, inA_b, inA_z, inA_l, inA_0, inA_4, inA_5, inA_6, inA_7, inA_8, inA_9, inA_10, al_0, al_1, al_2, al_4, al_5, al_98, bsP_2, bsP_3, wr_same, wr_wr, wr_ne, up_same, up_ne, Nat.reduceAdd, Int.reduceAdd, Int.reduceSub, Int.reduceMul, Int.reduceLT, Int.reduceLE, Int.reduceEq, Int.reduceNeg, Int.reduceToNat, Nat.reduceLT, Nat.reduceLeDiff, Nat.reduceEqDiff, ↓reduceIte, true_and, and_true, not_true_eq_false, not_false_eq_true, eq_self, or_true, true_or, or_false, false_or, if_true, if_false, Int.toNat_natCast, w_ite, Nat.add_zero, reduceCtorEq, ne_eq, hb, e]
      exact this
    | succ k ih =>
      intro i h hi hh
      have e1 : I b (p + i) = w (x.getD i 0) := hxT i (by omega)
      rw [drop_cons (by omega : i < x.length)] at hh
      have := ih (i + 1) _ (by omega) hh
      have e2 : ((p + (i + 1) : Nat) : Int) = ((p + i : Nat) : Int) + 1 := by omega
      rw [e2] at this
      have hq2 : p + i < p + x.length := by omega
      generalize hq : p + i = q at *
      rw [q_99_6]
      simp (disch := omega) only [q_99_0, q_99_1, q_99_3, q_99_4, q_99_8, q_99_9, q_99_10, q_99_11, q_99_14, q_99_16, q_99_17, q_99_18, q_99_21, q_99_23, q_99_25, q_99_26, q_99_27, q_99_29, q_99_30, q_99_31, q_99_33, q_99_36, q_99_39, q_99_41, q_99_43, q_99_45, q_99_46, q_99_47, q_99_50, q_99_51, q_99_53, q_99_54, q_99_58, q_99_60, q_99_63, q_99_64, q_99_67, q_99_69, q_99_70, q_99_73, q_99_74, q_99_77, q_99_79, q_99_80, q_99_81, q_99_82, q_99_85, q_99_87, q_99_88, q_99_89, q_99_90, q_99_93, q_99_95, q_99_96, q_99_97, q_99_98, q_99_99, q_99_102, q_99_103, q_99_104, q_99_107, q_99_108, q_99_109, q_99_110, q_99_113, q_99_115, q_99_116, q_99_117, q_99_120, q_99_122, q_99_123, q_99_124, q_99_125, q_99_126, q_99_129, q_99_132, q_99_133, q_99_136, q_99_138, q_99_139, q_99_140, q_99_141, q_99_142, q_99_143, q_99_144, q_99_146, q_99_147, q_99_148, q_99_151, q_99_152, q_99_154, q_99_157, q_99_160, q_99_e, va_rf_s, bz_0, bz_1, bz_ok, bb_ok, Nat.add_assoc, w_lt, w_add, w_sub, w_mul, w_div, em_def, w_eq, w_inT, ↓ilt_t, ↓ilt_f, ↓ieq_t, ↓ieq_f, ntT, w_b, w_ix, kx_v, kx_n, kl_n, kl_i, kl_r, kl_o, inA_i, inA_s, inA_b, inA_z, inA_l, inA_0, inA_4, inA_5, inA_6, inA_7, inA_8, inA_9, inA_10, al_0, al_1, al_2, al_4, al_5, al_98, bsP_2, bsP_3, wr_same, wr_wr, wr_ne, up_same, up_ne, Nat.reduceAdd, Int.reduceAdd, Int.reduceSub, Int.reduceMul, Int.reduceLT, Int.reduceLE, Int.reduceEq, Int.reduceNeg, Int.reduceToNat, Nat.reduceLT, Nat.reduceLeDiff, Nat.reduceEqDiff, ↓reduceIte, true_and, and_true, not_true_eq_false, not_false_eq_true, eq_self, or_true, true_or, or_false, false_or, if_true, if_false, Int.toNat_natCast, w_ite, Nat.add_zero, reduceCtorEq, ne_eq, hb, e1]
      exact this
  have := hl x.length 0 (w 0) (by omega) (by rw [List.drop_zero])
  rw [Nat.add_zero] at this
  simp (disch := omega) only [q_99_0, q_99_1, q_99_3, q_99_4, q_99_8, q_99_9, q_99_10, q_99_11, q_99_14, q_99_16, q_99_17, q_99_18, q_99_21, q_99_23, q_99_25, q_99_26, q_99_27, q_99_29, q_99_30, q_99_31, q_99_33, q_99_36, q_99_39, q_99_41, q_99_43, q_99_45, q_99_46, q_99_47, q_99_50, q_99_51, q_99_53, q_99_54, q_99_58, q_99_60, q_99_63, q_99_64, q_99_67, q_99_69, q_99_70, q_99_73, q_99_74, q_99_77, q_99_79, q_99_80, q_99_81, q_99_82, q_99_85, q_99_87, q_99_88, q_99_89, q_99_90, q_99_93, q_99_95, q_99_96, q_99_97, q_99_98, q_99_99, q_99_102, q_99_103, q_99_104, q_99_107, q_99_108, q_99_109, q_99_110, q_99_113, q_99_115, q_99_116, q_99_117, q_99_120, q_99_122, q_99_123, q_99_124, q_99_125, q_99_126, q_99_129, q_99_132, q_99_133, q_99_136, q_99_138, q_99_139, q_99_140, q_99_141, q_99_142, q_99_143, q_99_144, q_99_146, q_99_147, q_99_148, q_99_151, q_99_152, q_99_154, q_99_157, q_99_160, q_99_e, va_rf_s, bz_0, bz_1, bz_ok, bb_ok, Nat.add_assoc, w_lt, w_add, w_sub, w_mul, w_div, em_def, w_eq, w_inT, ↓ilt_t, ↓ilt_f, ↓ieq_t, ↓ieq_f, ntT, w_b, w_ix, kx_v, kx_n, kl_n, kl_i, kl_r, kl_o, inA_i, inA_s, inA_b, inA_z, inA_l, inA_0, inA_4, inA_5, inA_6, inA_7, inA_8, inA_9, inA_10, al_0, al_1, al_2, al_4, al_5, al_98, bsP_2, bsP_3, wr_same, wr_wr, wr_ne, up_same, up_ne, Nat.reduceAdd, Int.reduceAdd, Int.reduceSub, Int.reduceMul, Int.reduceLT, Int.reduceLE, Int.reduceEq, Int.reduceNeg, Int.reduceToNat, Nat.reduceLT, Nat.reduceLeDiff, Nat.reduceEqDiff, ↓reduceIte, true_and, and_true, not_true_eq_false, not_false_eq_true, eq_self, or_true, true_or, or_false, false_or, if_true, if_false, Int.toNat_natCast, w_ite, Nat.add_zero, reduceCtorEq, ne_eq]
  exact this
end

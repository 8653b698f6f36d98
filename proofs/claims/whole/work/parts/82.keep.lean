/-! a rule is kept -/
def shN (S : SH) (g k : Nat) : SH := fun x => if x = g then some (.inr 6) else if x = g + 1 then some (.inl (0, k)) else if x = g + 2 then some (.inl (0, k)) else if x = g + 3 then some (.inl (1, k)) else S x
def hd4 (F : Nat → Int32) (f : Nat → Int32) : Nat → Int32 := fun j => if j < 4 then F j else f j
/-- a heap with a new rule is of known shape again -/
theorem mk_new {S : SH} {I : MI} {L : ML} {R : MR} {G : MG} {A' : Hp} {k : Nat} {F gK gV : Nat → Int32} {gL : Nat → Int64} (h0 : ∀ x, x < G.1 → A'.1 x = (mk S I L R G).1 x) (hf : ∀ x, G.1 + 4 ≤ x → A'.1 x = (mk S I L R G).1 x) (h1 : A'.1 G.1 = some (.inr (6, [.int (F 0), .int (F 1), .int (F 2), .int (F 3), .ref (G.1 + 1), .ref (G.1 + 2), .ref (G.1 + 3)]))) (h2 : A'.1 (G.1 + 1) = some (.inl (0, k, .inl gK))) (h3 : A'.1 (G.1 + 2) = some (.inl (0, k, .inl gV))) (h4 : A'.1 (G.1 + 3) = some (.inl (1, k, .inr (.inl gL)))) {n : Nat} (h5 : A'.2 = (G.1 + 4, n, G.2.2)) :
    A' = mk (shN S G.1 k) (wr (wr (wr I G.1 (hd4 F (I G.1))) (G.1 + 1) gK) (G.1 + 2) gV) (wr L (G.1 + 3) gL) R (G.1 + 4, n, G.2.2) := by
  refine Prod.ext (funext fun x => ?_) h5
  show A'.1 x = k_cell (shN S G.1 k x) _ _ R x
  have c : x < G.1 ∨ x = G.1 ∨ x = G.1 + 1 ∨ x = G.1 + 2 ∨ x = G.1 + 3 ∨ G.1 + 4 ≤ x := by omega
  rcases c with c | c | c | c | c | c
  · rw [h0 x c]
    unfold shN
    rw [if_neg (by omega), if_neg (by omega), if_neg (by omega), if_neg (by omega), k_cell_wr (by omega), k_cell_wr (by omega), k_cell_wr (by omega), k_cell_wrL (by omega)]
    rfl
  · subst c
    rw [h1]
    unfold shN
    rw [if_pos rfl]
    show _ = some (Sum.inr (6, k_obj _ R G.1 6))
    unfold k_obj
    rw [wr_ne (show G.1 ≠ G.1 + 2 by omega), wr_ne (show G.1 ≠ G.1 + 1 by omega), wr_same]
    rfl
  · subst c
    rw [h2]
    unfold shN
    rw [if_neg (by omega), if_pos rfl]
    show _ = some (Sum.inl (0, k, Sum.inl (wr (wr (wr I G.1 _) (G.1 + 1) gK) (G.1 + 2) gV (G.1 + 1))))
    rw [wr_ne (by omega), wr_same]
  · subst c
    rw [h3]
    unfold shN
    rw [if_neg (by omega), if_neg (by omega), if_pos rfl]
    show _ = some (Sum.inl (0, k, Sum.inl (wr (wr (wr I G.1 _) (G.1 + 1) gK) (G.1 + 2) gV (G.1 + 2))))
    rw [wr_same]
  · subst c
    rw [h4]
    unfold shN
    rw [if_neg (by omega), if_neg (by omega), if_neg (by omega), if_pos rfl]
    show _ = some (Sum.inl (1, k, Sum.inr (Sum.inl (wr L (G.1 + 3) gL (G.1 + 3)))))
    rw [wr_same]
  · rw [hf x c]
    unfold shN
    rw [if_neg (by omega), if_neg (by omega), if_neg (by omega), if_neg (by omega), k_cell_wr (by omega), k_cell_wr (by omega), k_cell_wr (by omega), k_cell_wrL (by omega)]
    rfl
section
variable {d : Nat} {Q : XO → Hp → Prop} {S : SH} {I : MI} {L : ML} {R : MR} {G : MG} {A : Hp}
theorem rx_gfp {m pc k c j a n : Nat} {l : Lc} {st : List Value} {e : CE} {v : Value} (h1 : t_ins m pc = some (.getfield k)) (h2 : t_fld (t_own m) k = some (c, j)) (h3 : j < t_nf.getD c 0) (hS : S a = some (.inr c)) (ha : a ≠ G.1) (hv : k_val a (k_fk c j) (I a j) (R a j) = v) : XX d m pc l (.ref a :: st) (h_push (mk S I L R G) e n) Q ↔ XX d m (pc + 3) l (v :: st) (h_push (mk S I L R G) e n) Q :=
  rx_gf h1 h2 (fs := k_obj I R a c) (by rw [hp1 (by exact ha)]; exact mk_obj hS) (by rw [k_obj_get h3, hv])
theorem sp_68 {tr b n : Nat} {x : Int × Int × Int × Int} {its : List It} (hS : RdS S R tr b) (h1 : I tr 1 = w n) (hn : n < 30) (hx : RgAt I tr x) (hi : ItAt I L tr its) (hok : rlOk (x.1, x.2.1, x.2.2.1, x.2.2.2, its)) (hG : tr + 6 < G.1)
    (hQ : ∀ (S' : SH) (I' : MI) (L' : ML), (∀ y, (y < G.1 ∨ G.1 + 4 ≤ y) → S' y = S y) → (∀ y, (y < G.1 ∨ G.1 + 4 ≤ y) → y ≠ tr → I' y = I y) → (∀ j, j ≠ 1 → I' tr j = I tr j) → I' tr 1 = w (n + 1 : Nat) → (∀ y, (y < G.1 ∨ G.1 + 4 ≤ y) → L' y = L y) → RuleAt S' I' L' G.1 (x.1, x.2.1, x.2.2.1, x.2.2.2, its) → Q (.inl none) (mk S' I' L' (wr R (tr + 1) (up (R (tr + 1)) n (some G.1))) (G.1 + 4, G.2.1 + (7 + 3 * its.length), G.2.2))) :
    XC (d + 2) 68 [.ref tr] (mk S I L R G) Q := by
  obtain ⟨g0, g1, g3, g4, g5, g6, r5, gb, hb⟩ := id hS
  have h6 : its.length ≤ 6 := hok.2.2.2.2.2.2.2.2.1
  simp (disch := omega) only [q_68_0, q_68_1, q_68_4, q_68_7, q_68_8, q_68_11, q_68_13, q_68_16, q_68_17, q_68_20, q_68_21, q_68_27, q_68_28, q_68_29, q_68_32, q_68_33, q_68_36, q_68_37, q_68_40, q_68_41, q_68_44, q_68_45, q_68_51, q_68_51o, q_68_52, q_68_53, q_68_54, q_68_57, q_68_58, q_68_59, q_68_62, q_68_e, va_rf_s, bz_0, bz_1, bz_ok, bb_ok, Nat.add_assoc, w_lt, w_add, w_sub, w_mul, w_div, em_def, w_eq, w_inT, ↓ilt_t, ↓ilt_f, ↓ieq_t, ↓ieq_f, ntT, w_b, w_ix, kx_v, kx_n, kl_n, kl_i, kl_r, kl_o, inA_i, inA_s, inA_b, inA_z, inA_l, inA_0, inA_4, inA_5, inA_6, inA_7, inA_8, inA_9, inA_10, al_0, al_1, al_2, al_4, al_5, al_98, bsP_2, bsP_3, wr_same, wr_wr, wr_ne, up_same, up_ne, Nat.reduceAdd, Int.reduceAdd, Int.reduceSub, Int.reduceMul, Int.reduceLT, Int.reduceLE, Int.reduceEq, Int.reduceNeg, Int.reduceToNat, Nat.reduceLT, Nat.reduceLeDiff, Nat.reduceEqDiff, ↓reduceIte, true_and, and_true, not_true_eq_false, not_false_eq_true, eq_self, or_true, true_or, or_false, false_or, if_true, if_false, Int.toNat_natCast, w_ite, Nat.add_zero, reduceCtorEq, ne_eq, g0, h1]
  rw [rx_new i_68_24 rfl rfl]
  simp (disch := omega) only [q_68_0, q_68_1, q_68_4, q_68_7, q_68_8, q_68_11, q_68_13, q_68_16, q_68_17, q_68_20, q_68_21, q_68_27, q_68_28, q_68_29, q_68_32, q_68_33, q_68_36, q_68_37, q_68_40, q_68_41, q_68_44, q_68_45, q_68_51, q_68_51o, q_68_52, q_68_53, q_68_54, q_68_57, q_68_58, q_68_59, q_68_62, q_68_e, va_rf_s, bz_0, bz_1, bz_ok, bb_ok, Nat.add_assoc, w_lt, w_add, w_sub, w_mul, w_div, em_def, w_eq, w_inT, ↓ilt_t, ↓ilt_f, ↓ieq_t, ↓ieq_f, ntT, w_b, w_ix, kx_v, kx_n, kl_n, kl_i, kl_r, kl_o, inA_i, inA_s, inA_b, inA_z, inA_l, inA_0, inA_4, inA_5, inA_6, inA_7, inA_8, inA_9, inA_10, al_0, al_1, al_2, al_4, al_5, al_98, bsP_2, bsP_3, wr_same, wr_wr, wr_ne, up_same, up_ne, Nat.reduceAdd, Int.reduceAdd, Int.reduceSub, Int.reduceMul, Int.reduceLT, Int.reduceLE, Int.reduceEq, Int.reduceNeg, Int.reduceToNat, Nat.reduceLT, Nat.reduceLeDiff, Nat.reduceEqDiff, ↓reduceIte, true_and, and_true, not_true_eq_false, not_false_eq_true, eq_self, or_true, true_or, or_false, false_or, if_true, if_false, Int.toNat_natCast, w_ite, Nat.add_zero, reduceCtorEq, ne_eq]
  rw [rx_gfp (v := .ref (tr + 3)) i_68_29 rfl (by decide) g0 (by omega) rfl]
  simp (disch := omega) only [q_68_0, q_68_1, q_68_4, q_68_7, q_68_8, q_68_11, q_68_13, q_68_16, q_68_17, q_68_20, q_68_21, q_68_27, q_68_28, q_68_29, q_68_32, q_68_33, q_68_36, q_68_37, q_68_40, q_68_41, q_68_44, q_68_45, q_68_51, q_68_51o, q_68_52, q_68_53, q_68_54, q_68_57, q_68_58, q_68_59, q_68_62, q_68_e, va_rf_s, bz_0, bz_1, bz_ok, bb_ok, Nat.add_assoc, w_lt, w_add, w_sub, w_mul, w_div, em_def, w_eq, w_inT, ↓ilt_t, ↓ilt_f, ↓ieq_t, ↓ieq_f, ntT, w_b, w_ix, kx_v, kx_n, kl_n, kl_i, kl_r, kl_o, inA_i, inA_s, inA_b, inA_z, inA_l, inA_0, inA_4, inA_5, inA_6, inA_7, inA_8, inA_9, inA_10, al_0, al_1, al_2, al_4, al_5, al_98, bsP_2, bsP_3, wr_same, wr_wr, wr_ne, up_same, up_ne, Nat.reduceAdd, Int.reduceAdd, Int.reduceSub, Int.reduceMul, Int.reduceLT, Int.reduceLE, Int.reduceEq, Int.reduceNeg, Int.reduceToNat, Nat.reduceLT, Nat.reduceLeDiff, Nat.reduceEqDiff, ↓reduceIte, true_and, and_true, not_true_eq_false, not_false_eq_true, eq_self, or_true, true_or, or_false, false_or, if_true, if_false, Int.toNat_natCast, w_ite, Nat.add_zero, reduceCtorEq, ne_eq]
  rw [rx_gfp (v := .int (I tr 10)) i_68_33 rfl (by decide) g0 (by omega) rfl]
  simp (disch := omega) only [q_68_0, q_68_1, q_68_4, q_68_7, q_68_8, q_68_11, q_68_13, q_68_16, q_68_17, q_68_20, q_68_21, q_68_27, q_68_28, q_68_29, q_68_32, q_68_33, q_68_36, q_68_37, q_68_40, q_68_41, q_68_44, q_68_45, q_68_51, q_68_51o, q_68_52, q_68_53, q_68_54, q_68_57, q_68_58, q_68_59, q_68_62, q_68_e, va_rf_s, bz_0, bz_1, bz_ok, bb_ok, Nat.add_assoc, w_lt, w_add, w_sub, w_mul, w_div, em_def, w_eq, w_inT, ↓ilt_t, ↓ilt_f, ↓ieq_t, ↓ieq_f, ntT, w_b, w_ix, kx_v, kx_n, kl_n, kl_i, kl_r, kl_o, inA_i, inA_s, inA_b, inA_z, inA_l, inA_0, inA_4, inA_5, inA_6, inA_7, inA_8, inA_9, inA_10, al_0, al_1, al_2, al_4, al_5, al_98, bsP_2, bsP_3, wr_same, wr_wr, wr_ne, up_same, up_ne, Nat.reduceAdd, Int.reduceAdd, Int.reduceSub, Int.reduceMul, Int.reduceLT, Int.reduceLE, Int.reduceEq, Int.reduceNeg, Int.reduceToNat, Nat.reduceLT, Nat.reduceLeDiff, Nat.reduceEqDiff, ↓reduceIte, true_and, and_true, not_true_eq_false, not_false_eq_true, eq_self, or_true, true_or, or_false, false_or, if_true, if_false, Int.toNat_natCast, w_ite, Nat.add_zero, reduceCtorEq, ne_eq]
  rw [rx_gfp (v := .ref (tr + 4)) i_68_37 rfl (by decide) g0 (by omega) rfl]
  simp (disch := omega) only [q_68_0, q_68_1, q_68_4, q_68_7, q_68_8, q_68_11, q_68_13, q_68_16, q_68_17, q_68_20, q_68_21, q_68_27, q_68_28, q_68_29, q_68_32, q_68_33, q_68_36, q_68_37, q_68_40, q_68_41, q_68_44, q_68_45, q_68_51, q_68_51o, q_68_52, q_68_53, q_68_54, q_68_57, q_68_58, q_68_59, q_68_62, q_68_e, va_rf_s, bz_0, bz_1, bz_ok, bb_ok, Nat.add_assoc, w_lt, w_add, w_sub, w_mul, w_div, em_def, w_eq, w_inT, ↓ilt_t, ↓ilt_f, ↓ieq_t, ↓ieq_f, ntT, w_b, w_ix, kx_v, kx_n, kl_n, kl_i, kl_r, kl_o, inA_i, inA_s, inA_b, inA_z, inA_l, inA_0, inA_4, inA_5, inA_6, inA_7, inA_8, inA_9, inA_10, al_0, al_1, al_2, al_4, al_5, al_98, bsP_2, bsP_3, wr_same, wr_wr, wr_ne, up_same, up_ne, Nat.reduceAdd, Int.reduceAdd, Int.reduceSub, Int.reduceMul, Int.reduceLT, Int.reduceLE, Int.reduceEq, Int.reduceNeg, Int.reduceToNat, Nat.reduceLT, Nat.reduceLeDiff, Nat.reduceEqDiff, ↓reduceIte, true_and, and_true, not_true_eq_false, not_false_eq_true, eq_self, or_true, true_or, or_false, false_or, if_true, if_false, Int.toNat_natCast, w_ite, Nat.add_zero, reduceCtorEq, ne_eq]
  rw [rx_gfp (v := .ref (tr + 5)) i_68_41 rfl (by decide) g0 (by omega) rfl]
  simp (disch := omega) only [q_68_0, q_68_1, q_68_4, q_68_7, q_68_8, q_68_11, q_68_13, q_68_16, q_68_17, q_68_20, q_68_21, q_68_27, q_68_28, q_68_29, q_68_32, q_68_33, q_68_36, q_68_37, q_68_40, q_68_41, q_68_44, q_68_45, q_68_51, q_68_51o, q_68_52, q_68_53, q_68_54, q_68_57, q_68_58, q_68_59, q_68_62, q_68_e, va_rf_s, bz_0, bz_1, bz_ok, bb_ok, Nat.add_assoc, w_lt, w_add, w_sub, w_mul, w_div, em_def, w_eq, w_inT, ↓ilt_t, ↓ilt_f, ↓ieq_t, ↓ieq_f, ntT, w_b, w_ix, kx_v, kx_n, kl_n, kl_i, kl_r, kl_o, inA_i, inA_s, inA_b, inA_z, inA_l, inA_0, inA_4, inA_5, inA_6, inA_7, inA_8, inA_9, inA_10, al_0, al_1, al_2, al_4, al_5, al_98, bsP_2, bsP_3, wr_same, wr_wr, wr_ne, up_same, up_ne, Nat.reduceAdd, Int.reduceAdd, Int.reduceSub, Int.reduceMul, Int.reduceLT, Int.reduceLE, Int.reduceEq, Int.reduceNeg, Int.reduceToNat, Nat.reduceLT, Nat.reduceLeDiff, Nat.reduceEqDiff, ↓reduceIte, true_and, and_true, not_true_eq_false, not_false_eq_true, eq_self, or_true, true_or, or_false, false_or, if_true, if_false, Int.toNat_natCast, w_ite, Nat.add_zero, reduceCtorEq, ne_eq]
  rw [rx_gfp (v := .ref (tr + 6)) i_68_45 rfl (by decide) g0 (by omega) rfl]
  refine (rx_callI (m' := 54) (as := [.ref (tr + 3), .int (I tr 10), .ref (tr + 4), .ref (tr + 5), .ref (tr + 6)]) (r := [.ref G.1, .int (w n), .ref (tr + 1)]) i_68_48 rfl rfl rfl rfl (Nat.le_of_ble_eq_true rfl) (Nat.le_of_ble_eq_true rfl) (hp2 rfl)).mpr ?_
  rw [hi.1]
  refine sp_54 (k := its.length) (F := I (tr + 3)) (K := I (tr + 4)) (V := I (tr + 5)) (Lf := L (tr + 6)) (hp2 rfl) rfl (Nat.lt_succ_self _) ?_ ?_ ?_ ?_ (by show tr + 4 < G.1 + 1; omega) (by show tr + 5 < G.1 + 1; omega) (by show tr + 6 < G.1 + 1; omega) h6 (fun A' gK gV gL e1 e2 e3 e4 e5 e6 e7 e8 => ?_)
  · rw [hp1 (by show tr + 3 ≠ G.1; omega)]; exact mk_arrI g3 (by decide) (by decide)
  · rw [hp1 (by show tr + 4 ≠ G.1; omega)]; exact mk_arrI g4 (by decide) (by decide)
  · rw [hp1 (by show tr + 5 ≠ G.1; omega)]; exact mk_arrI g5 (by decide) (by decide)
  · rw [hp1 (by show tr + 6 ≠ G.1; omega)]; exact mk_arrL g6
  have hA := mk_new (S := S) (I := I) (L := L) (R := R) (G := G) (A' := A') (k := its.length) (F := I (tr + 3)) (gK := gK) (gV := gV) (gL := gL) (n := G.2.1 + (7 + 3 * its.length)) (fun y hy => by
      rw [e2 y (by show y ≠ G.1; omega) (by show y < G.1 + 1; omega)]; exact hp1 (by show y ≠ G.1; omega)) (fun y hy => by
      rw [e3 y (by show G.1 + 1 + 3 ≤ y; omega)]; exact hp1 (by show y ≠ G.1; omega)) e4 e5 e6 e7 (by
      rw [e8]
      show (G.1 + 4, G.2.1 + 7 + 3 * its.length, G.2.2) = (G.1 + 4, G.2.1 + (7 + 3 * its.length), G.2.2)
      rw [Nat.add_assoc G.2.1])
  rw [hA]
  have k0 : shN S G.1 its.length tr = some (.inr 8) := by unfold shN; rw [if_neg (by omega), if_neg (by omega), if_neg (by omega), if_neg (by omega)]; exact g0
  have k1 : shN S G.1 its.length (tr + 1) = some (.inl (4, 30)) := by unfold shN; rw [if_neg (by omega), if_neg (by omega), if_neg (by omega), if_neg (by omega)]; exact g1
  have kg : shN S G.1 its.length G.1 = some (.inr 6) := by unfold shN; rw [if_pos rfl]
  have ha : aqP (some (.inl (4, 30))) (shN S G.1 its.length) (some G.1) (w n) ↔ True := aq4 (fun y hy => by cases hy; exact kg) ((w_in (by omega) (by omega)).mpr ⟨by omega, by omega⟩)
  simp (disch := omega) only [q_68_0, q_68_1, q_68_4, q_68_7, q_68_8, q_68_11, q_68_13, q_68_16, q_68_17, q_68_20, q_68_21, q_68_27, q_68_28, q_68_29, q_68_32, q_68_33, q_68_36, q_68_37, q_68_40, q_68_41, q_68_44, q_68_45, q_68_51, q_68_51o, q_68_52, q_68_53, q_68_54, q_68_57, q_68_58, q_68_59, q_68_62, q_68_e, va_rf_s, bz_0, bz_1, bz_ok, bb_ok, Nat.add_assoc, w_lt, w_add, w_sub, w_mul, w_div, em_def, w_eq, w_inT, ↓ilt_t, ↓ilt_f, ↓ieq_t, ↓ieq_f, ntT, w_b, w_ix, kx_v, kx_n, kl_n, kl_i, kl_r, kl_o, inA_i, inA_s, inA_b, inA_z, inA_l, inA_0, inA_4, inA_5, inA_6, inA_7, inA_8, inA_9, inA_10, al_0, al_1, al_2, al_4, al_5, al_98, bsP_2, bsP_3, wr_same, wr_wr, wr_ne, up_same, up_ne, Nat.reduceAdd, Int.reduceAdd, Int.reduceSub, Int.reduceMul, Int.reduceLT, Int.reduceLE, Int.reduceEq, Int.reduceNeg, Int.reduceToNat, Nat.reduceLT, Nat.reduceLeDiff, Nat.reduceEqDiff, ↓reduceIte, true_and, and_true, not_true_eq_false, not_false_eq_true, eq_self, or_true, true_or, or_false, false_or, if_true, if_false, Int.toNat_natCast, w_ite, Nat.add_zero, reduceCtorEq, ne_eq, k0, k1, ha, h1]
  refine hQ _ _ _ (fun y hy => ?_) (fun y hy hyt => ?_) (fun j hj => ?_) ?_ (fun y hy => ?_) ⟨kg, ?_, ?_, ?_, ?_, ?_, ?_, ?_, fun i hi' => ⟨?_, ?_, ?_⟩, hok⟩
  · unfold shN; rw [if_neg (by omega), if_neg (by omega), if_neg (by omega), if_neg (by omega)]
  · rw [wr_ne hyt, wr_ne (by omega), wr_ne (by omega), wr_ne (by omega)]
  · rw [wr_same, up_ne hj]
  · rw [wr_same, up_same]; simp only [Int.natCast_add, Int.natCast_one]
  · rw [wr_ne (by omega)]
  · unfold shN; rw [if_neg (by omega), if_pos rfl]
  · unfold shN; rw [if_neg (by omega), if_neg (by omega), if_pos rfl]
  · unfold shN; rw [if_neg (by omega), if_neg (by omega), if_neg (by omega), if_pos rfl]
  · rw [wr_ne (by omega), wr_ne (by omega), wr_ne (by omega), wr_same]; exact hx.1
  · rw [wr_ne (by omega), wr_ne (by omega), wr_ne (by omega), wr_same]; exact hx.2.1
  · rw [wr_ne (by omega), wr_ne (by omega), wr_ne (by omega), wr_same]; exact hx.2.2.1
  · rw [wr_ne (by omega), wr_ne (by omega), wr_ne (by omega), wr_same]; exact hx.2.2.2
  · rw [wr_ne (by omega), wr_ne (by omega), wr_same, (e1 i hi').1]; exact (hi.2 i hi').1
  · rw [wr_ne (by omega), wr_same, (e1 i hi').2.1]; exact (hi.2 i hi').2.1
  · rw [wr_same, (e1 i hi').2.2]; exact (hi.2 i hi').2.2
end

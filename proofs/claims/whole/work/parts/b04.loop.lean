/-! the law's loop -/
theorem w_63 (x : Int) : w x &&& w 63 = w (x % 64) := by
  apply Int32.toBitVec_inj.mp
  show BitVec.ofInt 32 x &&& BitVec.ofInt 32 63 = BitVec.ofInt 32 (x % 64)
  apply BitVec.eq_of_toNat_eq
  rw [BitVec.toNat_and, BitVec.toNat_ofInt, BitVec.toNat_ofInt, BitVec.toNat_ofInt]
  show (x % 4294967296).toNat &&& 2 ^ 6 - 1 = (x % 64 % 4294967296).toNat
  rw [Nat.and_two_pow_sub_one_eq_mod]
  omega
theorem swT_out {ts : List Nat} {df : Nat} {z : Int} (h : ((ts.length : Nat) : Int) ≤ z) : swT ts df 0 z = df := by
  unfold swT
  rw [if_pos (Or.inr (by omega))]
section
variable {d : Nat} {Q : XO → Hp → Prop} {S : SH} {I : MI} {L : ML} {R : MR} {G : MG} {A : Hp}
variable {c b n : Nat} {x : Nat → Int}
/-- one round -/
theorem rnd {i : Nat} {s : St} {o5 o6 o7 : Option Value} (h : LB S I L R G c s s) (hf : few s) (hbc : b < c) (hb : Scr S I b n x) (hi : i + 6 ≤ n) (hn : n ≤ 3072) (hQ : KN S I G d c b i Q s) : XX (d + 80) 268 23 [some (.ref b), some (.ref c), some (.ref (c + 121)), some (.ref (c + 6799)), some (.int (w i)), o5, o6, o7] [] (mk S I L R G) Q := by
  have hb0 := hb.1
  obtain ⟨v0, b0⟩ := hb.2 i (by omega)
  have w63 := w_63 (x i)
  have m0 : 0 ≤ x i % 64 ∧ x i % 64 < 64 := by omega
  have tI : (w (x i % 64)).toInt = x i % 64 := w_toInt (by omega) (by omega)
  rw [q_268_23]
  simp (disch := omega) only [q_268_25, q_268_26, q_268_27, q_268_29, q_268_30, q_268_33, q_268_34, q_268_36, q_268_37, q_268_39, va_rf_s, bz_0, bz_1, bz_ok, bb_ok, Nat.add_assoc, w_lt, w_add, w_sub, w_mul, w_div, em_def, w_eq, w_inT, ↓ilt_t, ↓ilt_f, ↓ieq_t, ↓ieq_f, ntT, w_b, w_ix, kx_v, kx_n, kl_n, kl_i, kl_r, kl_o, inA_i, inA_s, inA_b, inA_z, inA_l, inA_0, inA_4, inA_5, inA_6, inA_7, inA_8, inA_9, inA_10, al_0, al_1, al_2, al_4, al_5, al_98, bsP_2, bsP_3, wr_same, wr_wr, wr_ne, up_same, up_ne, Nat.reduceAdd, Int.reduceAdd, Int.reduceSub, Int.reduceMul, Int.reduceLT, Int.reduceLE, Int.reduceEq, Int.reduceNeg, Int.reduceToNat, Nat.reduceLT, Nat.reduceLeDiff, Nat.reduceEqDiff, ↓reduceIte, true_and, and_true, not_true_eq_false, not_false_eq_true, eq_self, or_true, true_or, or_false, false_or, if_true, if_false, Int.toNat_natCast, w_ite, Nat.add_zero, reduceCtorEq, ne_eq, hb0, v0, w63]
  rw [if_neg (show ¬ ((n : Int) - 6 < (i : Int)) by omega), q_268_40, tI]
  generalize x i % 64 = k at *
  by_cases c33 : 33 ≤ k
  · have e := swT_out (ts := [188, 261, 317, 330, 386, 442, 510, 578, 591, 647, 727, 819, 887, 967, 1047, 1115, 1183, 1275, 1343, 1411, 1491, 1571, 1663, 1731, 1799, 1812, 1880, 1948, 2028, 2084, 2152, 2208, 2263]) (df := 2288) (z := k) (show ((33 : Nat) : Int) ≤ k by omega)
    rw [e]
    exact hQ S I L R G s o5 o6 o7 h ⟨fun _ _ => ⟨rfl, rfl⟩, Nat.le_refl _, by omega, Nat.le_refl _, by omega⟩ ⟨Nat.le_succ _, Nat.le_succ _⟩
  · have hk : k = 0 ∨ k = 1 ∨ k = 2 ∨ k = 3 ∨ k = 4 ∨ k = 5 ∨ k = 6 ∨ k = 7 ∨ k = 8 ∨ k = 9 ∨ k = 10 ∨ k = 11 ∨ k = 12 ∨ k = 13 ∨ k = 14 ∨ k = 15 ∨ k = 16 ∨ k = 17 ∨ k = 18 ∨ k = 19 ∨ k = 20 ∨ k = 21 ∨ k = 22 ∨ k = 23 ∨ k = 24 ∨ k = 25 ∨ k = 26 ∨ k = 27 ∨ k = 28 ∨ k = 29 ∨ k = 30 ∨ k = 31 ∨ k = 32 := by omega
    rcases hk with rfl | rfl | rfl | rfl | rfl | rfl | rfl | rfl | rfl | rfl | rfl | rfl | rfl | rfl | rfl | rfl | rfl | rfl | rfl | rfl | rfl | rfl | rfl | rfl | rfl | rfl | rfl | rfl | rfl | rfl | rfl | rfl | rfl
    · rw [show swT [188, 261, 317, 330, 386, 442, 510, 578, 591, 647, 727, 819, 887, 967, 1047, 1115, 1183, 1275, 1343, 1411, 1491, 1571, 1663, 1731, 1799, 1812, 1880, 1948, 2028, 2084, 2152, 2208, 2263] 2288 0 0 = 188 from rfl]
      exact kd_0 h hf hbc hb hi hn hQ
    · rw [show swT [188, 261, 317, 330, 386, 442, 510, 578, 591, 647, 727, 819, 887, 967, 1047, 1115, 1183, 1275, 1343, 1411, 1491, 1571, 1663, 1731, 1799, 1812, 1880, 1948, 2028, 2084, 2152, 2208, 2263] 2288 0 1 = 261 from rfl]
      exact kd_1 h hf hbc hb hi hn hQ
    · rw [show swT [188, 261, 317, 330, 386, 442, 510, 578, 591, 647, 727, 819, 887, 967, 1047, 1115, 1183, 1275, 1343, 1411, 1491, 1571, 1663, 1731, 1799, 1812, 1880, 1948, 2028, 2084, 2152, 2208, 2263] 2288 0 2 = 317 from rfl]
      exact kd_2 h hf hbc hb hi hn hQ
    · rw [show swT [188, 261, 317, 330, 386, 442, 510, 578, 591, 647, 727, 819, 887, 967, 1047, 1115, 1183, 1275, 1343, 1411, 1491, 1571, 1663, 1731, 1799, 1812, 1880, 1948, 2028, 2084, 2152, 2208, 2263] 2288 0 3 = 330 from rfl]
      exact kd_3 h hf hbc hb hi hn hQ
    · rw [show swT [188, 261, 317, 330, 386, 442, 510, 578, 591, 647, 727, 819, 887, 967, 1047, 1115, 1183, 1275, 1343, 1411, 1491, 1571, 1663, 1731, 1799, 1812, 1880, 1948, 2028, 2084, 2152, 2208, 2263] 2288 0 4 = 386 from rfl]
      exact kd_4 h hf hbc hb hi hn hQ
    · rw [show swT [188, 261, 317, 330, 386, 442, 510, 578, 591, 647, 727, 819, 887, 967, 1047, 1115, 1183, 1275, 1343, 1411, 1491, 1571, 1663, 1731, 1799, 1812, 1880, 1948, 2028, 2084, 2152, 2208, 2263] 2288 0 5 = 442 from rfl]
      exact kd_5 h hf hbc hb hi hn hQ
    · rw [show swT [188, 261, 317, 330, 386, 442, 510, 578, 591, 647, 727, 819, 887, 967, 1047, 1115, 1183, 1275, 1343, 1411, 1491, 1571, 1663, 1731, 1799, 1812, 1880, 1948, 2028, 2084, 2152, 2208, 2263] 2288 0 6 = 510 from rfl]
      exact kd_6 h hf hbc hb hi hn hQ
    · rw [show swT [188, 261, 317, 330, 386, 442, 510, 578, 591, 647, 727, 819, 887, 967, 1047, 1115, 1183, 1275, 1343, 1411, 1491, 1571, 1663, 1731, 1799, 1812, 1880, 1948, 2028, 2084, 2152, 2208, 2263] 2288 0 7 = 578 from rfl]
      exact kd_7 h hf hbc hb hi hn hQ
    · rw [show swT [188, 261, 317, 330, 386, 442, 510, 578, 591, 647, 727, 819, 887, 967, 1047, 1115, 1183, 1275, 1343, 1411, 1491, 1571, 1663, 1731, 1799, 1812, 1880, 1948, 2028, 2084, 2152, 2208, 2263] 2288 0 8 = 591 from rfl]
      exact kd_8 h hf hbc hb hi hn hQ
    · rw [show swT [188, 261, 317, 330, 386, 442, 510, 578, 591, 647, 727, 819, 887, 967, 1047, 1115, 1183, 1275, 1343, 1411, 1491, 1571, 1663, 1731, 1799, 1812, 1880, 1948, 2028, 2084, 2152, 2208, 2263] 2288 0 9 = 647 from rfl]
      exact kd_9 h hf hbc hb hi hn hQ
    · rw [show swT [188, 261, 317, 330, 386, 442, 510, 578, 591, 647, 727, 819, 887, 967, 1047, 1115, 1183, 1275, 1343, 1411, 1491, 1571, 1663, 1731, 1799, 1812, 1880, 1948, 2028, 2084, 2152, 2208, 2263] 2288 0 10 = 727 from rfl]
      exact kd_10 h hf hbc hb hi hn hQ
    · rw [show swT [188, 261, 317, 330, 386, 442, 510, 578, 591, 647, 727, 819, 887, 967, 1047, 1115, 1183, 1275, 1343, 1411, 1491, 1571, 1663, 1731, 1799, 1812, 1880, 1948, 2028, 2084, 2152, 2208, 2263] 2288 0 11 = 819 from rfl]
      exact kd_11 h hf hbc hb hi hn hQ
    · rw [show swT [188, 261, 317, 330, 386, 442, 510, 578, 591, 647, 727, 819, 887, 967, 1047, 1115, 1183, 1275, 1343, 1411, 1491, 1571, 1663, 1731, 1799, 1812, 1880, 1948, 2028, 2084, 2152, 2208, 2263] 2288 0 12 = 887 from rfl]
      exact kd_12 h hf hbc hb hi hn hQ
    · rw [show swT [188, 261, 317, 330, 386, 442, 510, 578, 591, 647, 727, 819, 887, 967, 1047, 1115, 1183, 1275, 1343, 1411, 1491, 1571, 1663, 1731, 1799, 1812, 1880, 1948, 2028, 2084, 2152, 2208, 2263] 2288 0 13 = 967 from rfl]
      exact kd_13 h hf hbc hb hi hn hQ
    · rw [show swT [188, 261, 317, 330, 386, 442, 510, 578, 591, 647, 727, 819, 887, 967, 1047, 1115, 1183, 1275, 1343, 1411, 1491, 1571, 1663, 1731, 1799, 1812, 1880, 1948, 2028, 2084, 2152, 2208, 2263] 2288 0 14 = 1047 from rfl]
      exact kd_14 h hf hbc hb hi hn hQ
    · rw [show swT [188, 261, 317, 330, 386, 442, 510, 578, 591, 647, 727, 819, 887, 967, 1047, 1115, 1183, 1275, 1343, 1411, 1491, 1571, 1663, 1731, 1799, 1812, 1880, 1948, 2028, 2084, 2152, 2208, 2263] 2288 0 15 = 1115 from rfl]
      exact kd_15 h hf hbc hb hi hn hQ
    · rw [show swT [188, 261, 317, 330, 386, 442, 510, 578, 591, 647, 727, 819, 887, 967, 1047, 1115, 1183, 1275, 1343, 1411, 1491, 1571, 1663, 1731, 1799, 1812, 1880, 1948, 2028, 2084, 2152, 2208, 2263] 2288 0 16 = 1183 from rfl]
      exact kd_16 h hf hbc hb hi hn hQ
    · rw [show swT [188, 261, 317, 330, 386, 442, 510, 578, 591, 647, 727, 819, 887, 967, 1047, 1115, 1183, 1275, 1343, 1411, 1491, 1571, 1663, 1731, 1799, 1812, 1880, 1948, 2028, 2084, 2152, 2208, 2263] 2288 0 17 = 1275 from rfl]
      exact kd_17 h hf hbc hb hi hn hQ
    · rw [show swT [188, 261, 317, 330, 386, 442, 510, 578, 591, 647, 727, 819, 887, 967, 1047, 1115, 1183, 1275, 1343, 1411, 1491, 1571, 1663, 1731, 1799, 1812, 1880, 1948, 2028, 2084, 2152, 2208, 2263] 2288 0 18 = 1343 from rfl]
      exact kd_18 h hf hbc hb hi hn hQ
    · rw [show swT [188, 261, 317, 330, 386, 442, 510, 578, 591, 647, 727, 819, 887, 967, 1047, 1115, 1183, 1275, 1343, 1411, 1491, 1571, 1663, 1731, 1799, 1812, 1880, 1948, 2028, 2084, 2152, 2208, 2263] 2288 0 19 = 1411 from rfl]
      exact kd_19 h hf hbc hb hi hn hQ
    · rw [show swT [188, 261, 317, 330, 386, 442, 510, 578, 591, 647, 727, 819, 887, 967, 1047, 1115, 1183, 1275, 1343, 1411, 1491, 1571, 1663, 1731, 1799, 1812, 1880, 1948, 2028, 2084, 2152, 2208, 2263] 2288 0 20 = 1491 from rfl]
      exact kd_20 h hf hbc hb hi hn hQ
    · rw [show swT [188, 261, 317, 330, 386, 442, 510, 578, 591, 647, 727, 819, 887, 967, 1047, 1115, 1183, 1275, 1343, 1411, 1491, 1571, 1663, 1731, 1799, 1812, 1880, 1948, 2028, 2084, 2152, 2208, 2263] 2288 0 21 = 1571 from rfl]
      exact kd_21 h hf hbc hb hi hn hQ
    · rw [show swT [188, 261, 317, 330, 386, 442, 510, 578, 591, 647, 727, 819, 887, 967, 1047, 1115, 1183, 1275, 1343, 1411, 1491, 1571, 1663, 1731, 1799, 1812, 1880, 1948, 2028, 2084, 2152, 2208, 2263] 2288 0 22 = 1663 from rfl]
      exact kd_22 h hf hbc hb hi hn hQ
    · rw [show swT [188, 261, 317, 330, 386, 442, 510, 578, 591, 647, 727, 819, 887, 967, 1047, 1115, 1183, 1275, 1343, 1411, 1491, 1571, 1663, 1731, 1799, 1812, 1880, 1948, 2028, 2084, 2152, 2208, 2263] 2288 0 23 = 1731 from rfl]
      exact kd_23 h hf hbc hb hi hn hQ
    · rw [show swT [188, 261, 317, 330, 386, 442, 510, 578, 591, 647, 727, 819, 887, 967, 1047, 1115, 1183, 1275, 1343, 1411, 1491, 1571, 1663, 1731, 1799, 1812, 1880, 1948, 2028, 2084, 2152, 2208, 2263] 2288 0 24 = 1799 from rfl]
      exact kd_24 h hf hbc hb hi hn hQ
    · rw [show swT [188, 261, 317, 330, 386, 442, 510, 578, 591, 647, 727, 819, 887, 967, 1047, 1115, 1183, 1275, 1343, 1411, 1491, 1571, 1663, 1731, 1799, 1812, 1880, 1948, 2028, 2084, 2152, 2208, 2263] 2288 0 25 = 1812 from rfl]
      exact kd_25 h hf hbc hb hi hn hQ
    · rw [show swT [188, 261, 317, 330, 386, 442, 510, 578, 591, 647, 727, 819, 887, 967, 1047, 1115, 1183, 1275, 1343, 1411, 1491, 1571, 1663, 1731, 1799, 1812, 1880, 1948, 2028, 2084, 2152, 2208, 2263] 2288 0 26 = 1880 from rfl]
      exact kd_26 h hf hbc hb hi hn hQ
    · rw [show swT [188, 261, 317, 330, 386, 442, 510, 578, 591, 647, 727, 819, 887, 967, 1047, 1115, 1183, 1275, 1343, 1411, 1491, 1571, 1663, 1731, 1799, 1812, 1880, 1948, 2028, 2084, 2152, 2208, 2263] 2288 0 27 = 1948 from rfl]
      exact kd_27 h hf hbc hb hi hn hQ
    · rw [show swT [188, 261, 317, 330, 386, 442, 510, 578, 591, 647, 727, 819, 887, 967, 1047, 1115, 1183, 1275, 1343, 1411, 1491, 1571, 1663, 1731, 1799, 1812, 1880, 1948, 2028, 2084, 2152, 2208, 2263] 2288 0 28 = 2028 from rfl]
      exact kd_28 h hf hbc hb hi hn hQ
    · rw [show swT [188, 261, 317, 330, 386, 442, 510, 578, 591, 647, 727, 819, 887, 967, 1047, 1115, 1183, 1275, 1343, 1411, 1491, 1571, 1663, 1731, 1799, 1812, 1880, 1948, 2028, 2084, 2152, 2208, 2263] 2288 0 29 = 2084 from rfl]
      exact kd_29 h hf hbc hb hi hn hQ
    · rw [show swT [188, 261, 317, 330, 386, 442, 510, 578, 591, 647, 727, 819, 887, 967, 1047, 1115, 1183, 1275, 1343, 1411, 1491, 1571, 1663, 1731, 1799, 1812, 1880, 1948, 2028, 2084, 2152, 2208, 2263] 2288 0 30 = 2152 from rfl]
      exact kd_30 h hf hbc hb hi hn hQ
    · rw [show swT [188, 261, 317, 330, 386, 442, 510, 578, 591, 647, 727, 819, 887, 967, 1047, 1115, 1183, 1275, 1343, 1411, 1491, 1571, 1663, 1731, 1799, 1812, 1880, 1948, 2028, 2084, 2152, 2208, 2263] 2288 0 31 = 2208 from rfl]
      exact kd_31 h hf hbc hb hi hn hQ
    · rw [show swT [188, 261, 317, 330, 386, 442, 510, 578, 591, 647, 727, 819, 887, 967, 1047, 1115, 1183, 1275, 1343, 1411, 1491, 1571, 1663, 1731, 1799, 1812, 1880, 1948, 2028, 2084, 2152, 2208, 2263] 2288 0 32 = 2263 from rfl]
      exact kd_32 h hf hbc hb hi hn hQ
/-- all rounds -/
theorem rnds (hbc : b < c) (hn : n ≤ 3072) : ∀ (j i : Nat) (s : St) (S : SH) (I : MI) (L : ML) (R : MR) (G : MG) (o5 o6 o7 : Option Value), i + 6 * j ≤ n + 5 → n < i + 6 * j + 6 → s.2.2.2.2.1 + j ≤ 1000000 → s.2.2.2.2.2 + j ≤ 1000000 → LB S I L R G c s s → Scr S I b n x → (∀ (S' : SH) (I' : MI) (L' : ML) (R' : MR) (G' : MG), LFr S I G c S' I' G' j → Q (.inl (some (.int (w 1)))) (mk S' I' L' R' G')) → XX (d + 80) 268 23 [some (.ref b), some (.ref c), some (.ref (c + 121)), some (.ref (c + 6799)), some (.int (w i)), o5, o6, o7] [] (mk S I L R G) Q := by
  intro j
  induction j with
  | zero =>
    intro i s S I L R G o5 o6 o7 h1 h2 h3 h4 h hb hQ
    have hb0 := hb.1
    have := hQ S I L R G ⟨fun _ _ => ⟨rfl, rfl⟩, Nat.le_refl _, Nat.le_refl _, Nat.le_refl _, Nat.le_refl _⟩
    rw [q_268_23]
    simp (disch := omega) only [q_268_25, q_268_26, q_268_27, q_268_29, q_268_30, va_rf_s, bz_0, bz_1, bz_ok, bb_ok, Nat.add_assoc, w_lt, w_add, w_sub, w_mul, w_div, em_def, w_eq, w_inT, ↓ilt_t, ↓ilt_f, ↓ieq_t, ↓ieq_f, ntT, w_b, w_ix, kx_v, kx_n, kl_n, kl_i, kl_r, kl_o, inA_i, inA_s, inA_b, inA_z, inA_l, inA_0, inA_4, inA_5, inA_6, inA_7, inA_8, inA_9, inA_10, al_0, al_1, al_2, al_4, al_5, al_98, bsP_2, bsP_3, wr_same, wr_wr, wr_ne, up_same, up_ne, Nat.reduceAdd, Int.reduceAdd, Int.reduceSub, Int.reduceMul, Int.reduceLT, Int.reduceLE, Int.reduceEq, Int.reduceNeg, Int.reduceToNat, Nat.reduceLT, Nat.reduceLeDiff, Nat.reduceEqDiff, ↓reduceIte, true_and, and_true, not_true_eq_false, not_false_eq_true, eq_self, or_true, true_or, or_false, false_or, if_true, if_false, Int.toNat_natCast, w_ite, Nat.add_zero, reduceCtorEq, ne_eq, hb0]
    rw [if_pos (show ((n : Int) - 6 < (i : Int)) by omega)]
    simp (disch := omega) only [q_268_2294, q_268_2295, va_rf_s, bz_0, bz_1, bz_ok, bb_ok, Nat.add_assoc, w_lt, w_add, w_sub, w_mul, w_div, em_def, w_eq, w_inT, ↓ilt_t, ↓ilt_f, ↓ieq_t, ↓ieq_f, ntT, w_b, w_ix, kx_v, kx_n, kl_n, kl_i, kl_r, kl_o, inA_i, inA_s, inA_b, inA_z, inA_l, inA_0, inA_4, inA_5, inA_6, inA_7, inA_8, inA_9, inA_10, al_0, al_1, al_2, al_4, al_5, al_98, bsP_2, bsP_3, wr_same, wr_wr, wr_ne, up_same, up_ne, Nat.reduceAdd, Int.reduceAdd, Int.reduceSub, Int.reduceMul, Int.reduceLT, Int.reduceLE, Int.reduceEq, Int.reduceNeg, Int.reduceToNat, Nat.reduceLT, Nat.reduceLeDiff, Nat.reduceEqDiff, ↓reduceIte, true_and, and_true, not_true_eq_false, not_false_eq_true, eq_self, or_true, true_or, or_false, false_or, if_true, if_false, Int.toNat_natCast, w_ite, Nat.add_zero, reduceCtorEq, ne_eq]
    exact this
  | succ j ih =>
    intro i s S I L R G o5 o6 o7 h1 h2 h3 h4 h hb hQ
    by_cases ci : i + 6 ≤ n
    · refine rnd h ⟨by omega, by omega⟩ hbc hb ci hn (fun S' I' L' R' G' s' p5 p6 p7 h' hF hg => ?_)
      have hI := (hF.1 b hbc).2
      have := ih (i + 6) s' S' I' L' R' G' p5 p6 p7 (by omega) (by omega) (by have := hg.1; omega) (by have := hg.2; omega) h' ⟨((hF.1 b hbc).1).trans hb.1, fun j hj => by rw [hI]; exact hb.2 j hj⟩ (fun S2 I2 L2 R2 G2 hF2 => hQ S2 I2 L2 R2 G2 (by
        have := hF.trans hF2
        rw [Nat.add_comm 1 j] at this
        exact this))
      simp only [Int.natCast_add] at this
      rw [q_268_2288, q_268_2291, w_add]
      exact this
    · have hb0 := hb.1
      have := hQ S I L R G ⟨fun _ _ => ⟨rfl, rfl⟩, Nat.le_refl _, by omega, Nat.le_refl _, by omega⟩
      rw [q_268_23]
      simp (disch := omega) only [q_268_25, q_268_26, q_268_27, q_268_29, q_268_30, va_rf_s, bz_0, bz_1, bz_ok, bb_ok, Nat.add_assoc, w_lt, w_add, w_sub, w_mul, w_div, em_def, w_eq, w_inT, ↓ilt_t, ↓ilt_f, ↓ieq_t, ↓ieq_f, ntT, w_b, w_ix, kx_v, kx_n, kl_n, kl_i, kl_r, kl_o, inA_i, inA_s, inA_b, inA_z, inA_l, inA_0, inA_4, inA_5, inA_6, inA_7, inA_8, inA_9, inA_10, al_0, al_1, al_2, al_4, al_5, al_98, bsP_2, bsP_3, wr_same, wr_wr, wr_ne, up_same, up_ne, Nat.reduceAdd, Int.reduceAdd, Int.reduceSub, Int.reduceMul, Int.reduceLT, Int.reduceLE, Int.reduceEq, Int.reduceNeg, Int.reduceToNat, Nat.reduceLT, Nat.reduceLeDiff, Nat.reduceEqDiff, ↓reduceIte, true_and, and_true, not_true_eq_false, not_false_eq_true, eq_self, or_true, true_or, or_false, false_or, if_true, if_false, Int.toNat_natCast, w_ite, Nat.add_zero, reduceCtorEq, ne_eq, hb0]
      rw [if_pos (show ((n : Int) - 6 < (i : Int)) by omega)]
      simp (disch := omega) only [q_268_2294, q_268_2295, va_rf_s, bz_0, bz_1, bz_ok, bb_ok, Nat.add_assoc, w_lt, w_add, w_sub, w_mul, w_div, em_def, w_eq, w_inT, ↓ilt_t, ↓ilt_f, ↓ieq_t, ↓ieq_f, ntT, w_b, w_ix, kx_v, kx_n, kl_n, kl_i, kl_r, kl_o, inA_i, inA_s, inA_b, inA_z, inA_l, inA_0, inA_4, inA_5, inA_6, inA_7, inA_8, inA_9, inA_10, al_0, al_1, al_2, al_4, al_5, al_98, bsP_2, bsP_3, wr_same, wr_wr, wr_ne, up_same, up_ne, Nat.reduceAdd, Int.reduceAdd, Int.reduceSub, Int.reduceMul, Int.reduceLT, Int.reduceLE, Int.reduceEq, Int.reduceNeg, Int.reduceToNat, Nat.reduceLT, Nat.reduceLeDiff, Nat.reduceEqDiff, ↓reduceIte, true_and, and_true, not_true_eq_false, not_false_eq_true, eq_self, or_true, true_or, or_false, false_or, if_true, if_false, Int.toNat_natCast, w_ite, Nat.add_zero, reduceCtorEq, ne_eq]
      exact this
end

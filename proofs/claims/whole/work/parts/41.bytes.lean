/-! bytes compared and copied; small methods -/
theorem w_255 (x : Int) : w x &&& w 255 = w (x % 256) := by
  apply Int32.toBitVec_inj.mp
  show BitVec.ofInt 32 x &&& BitVec.ofInt 32 255 = BitVec.ofInt 32 (x % 256)
  apply BitVec.eq_of_toNat_eq
  rw [BitVec.toNat_and, BitVec.toNat_ofInt, BitVec.toNat_ofInt, BitVec.toNat_ofInt]
  show (x % 4294967296).toNat &&& 2 ^ 8 - 1 = (x % 256 % 4294967296).toNat
  rw [Nat.and_two_pow_sub_one_eq_mod]
  omega
/-- a list of numbers lies in a row from a place on -/
def Txt (f : Nat → Int32) (p : Nat) (s : List Int) : Prop := ∀ i, i < s.length → f (p + i) = w (s.getD i 0)
/-- how two texts stand, byte by byte -/
def lexc : List Int → List Int → Int
  | [], t => -(t.length : Int)
  | s, [] => s.length
  | x :: s, y :: t => if x % 256 - y % 256 = 0 then lexc s t else x % 256 - y % 256
theorem drop_cons {s : List Int} {k : Nat} (h : k < s.length) : s.drop k = s.getD k 0 :: s.drop (k + 1) := by
  rw [List.drop_eq_getElem_cons h, List.getD_eq_getElem?_getD, List.getElem?_eq_getElem h]
  rfl
theorem lexc_end {s t : List Int} {k : Nat} (h : k = min s.length t.length) : lexc (s.drop k) (t.drop k) = s.length - t.length := by
  by_cases hs : s.length ≤ t.length
  · rw [List.drop_eq_nil_of_le (by omega : s.length ≤ k)]
    unfold lexc
    rw [List.length_drop]
    omega
  · rw [List.drop_eq_nil_of_le (by omega : t.length ≤ k), drop_cons (by omega : k < s.length)]
    unfold lexc
    rw [List.length_cons, List.length_drop]
    omega
section
variable {d : Nat} {Q : XO → Hp → Prop} {S : SH} {I : MI} {L : ML} {R : MR} {G : MG} {A : Hp}
theorem sp_cmp {a b n1 n2 p q : Nat} {s t : List Int} (h1 : S a = some (.inl (2, n1))) (h2 : S b = some (.inl (2, n2))) (h3 : n1 < 2147483648) (h4 : n2 < 2147483648) (h5 : p + s.length ≤ n1) (h6 : q + t.length ≤ n2) (h7 : Txt (I a) p s) (h8 : Txt (I b) q t) :
    XC d 151 [.ref a, .int (w p), .int (w s.length), .ref b, .int (w q), .int (w t.length)] (mk S I L R G) Q ↔ Q (.inl (some (.int (w (lexc s t))))) (mk S I L R G) := by
  have lp : ∀ (j k : Nat) (v : Option Value), k + j = min s.length t.length → (XX d 151 40 [some (.ref a), some (.int (w p)), some (.int (w s.length)), some (.ref b), some (.int (w q)), some (.int (w t.length)), some (.int (w (min s.length t.length : Nat))), some (.int (w k)), v] [] (mk S I L R G) Q ↔ Q (.inl (some (.int (w (lexc (s.drop k) (t.drop k)))))) (mk S I L R G)) := by
    intro j
    induction j with
    | zero =>
      intro k v hk
      rw [q_151_40]
      simp (disch := omega) only [q_151_0, q_151_1, q_151_4, q_151_6, q_151_9, q_151_10, q_151_11, q_151_12, q_151_13, q_151_14, q_151_17, q_151_19, q_151_20, q_151_21, q_151_23, q_151_24, q_151_27, q_151_28, q_151_29, q_151_30, q_151_32, q_151_35, q_151_37, q_151_38, q_151_42, q_151_44, q_151_47, q_151_48, q_151_49, q_151_51, q_151_52, q_151_53, q_151_56, q_151_57, q_151_58, q_151_60, q_151_62, q_151_63, q_151_64, q_151_67, q_151_68, q_151_69, q_151_71, q_151_73, q_151_76, q_151_78, q_151_79, q_151_82, q_151_85, q_151_86, q_151_88, q_151_89, q_151_e, va_rf_s, bz_0, bz_1, bz_ok, bb_ok, Nat.add_assoc, w_lt, w_add, w_sub, w_mul, w_div, em_def, w_eq, w_inT, ↓ilt_t, ↓ilt_f, ↓ieq_t, ↓ieq_f, ntT, w_b, w_ix, kx_v, kx_n, kl_n, kl_i, kl_r, kl_o, inA_i, inA_s, inA_b, inA_z, inA_l, inA_0, inA_4, inA_5, inA_6, inA_7, inA_8, inA_9, inA_10, al_0, al_1, al_2, al_4, al_5, al_98, bsP_2, bsP_3, wr_same, wr_wr, wr_ne, up_same, up_ne, Nat.reduceAdd, Int.reduceAdd, Int.reduceSub, Int.reduceMul, Int.reduceLT, Int.reduceLE, Int.reduceEq, Int.reduceNeg, Int.reduceToNat, Nat.reduceLT, Nat.reduceLeDiff, Nat.reduceEqDiff, ↓reduceIte, true_and, and_true, not_true_eq_false, not_false_eq_true, eq_self, or_true, true_or, or_false, false_or, if_true, if_false, Int.toNat_natCast, w_ite, Nat.add_zero, reduceCtorEq, ne_eq, h1, h2]
      rw [lexc_end (by omega)]
    | succ j ih =>
      intro k v hk
      have e1 : I a ((p : Int) + k).toNat = w (s.getD k 0) := by
        rw [show ((p : Int) + k).toNat = p + k by omega]; exact h7 k (by omega)
      have e2 : I b ((q : Int) + k).toNat = w (t.getD k 0) := by
        rw [show ((q : Int) + k).toNat = q + k by omega]; exact h8 k (by omega)
      rw [drop_cons (by omega : k < s.length), drop_cons (by omega : k < t.length)]
      unfold lexc
      rw [q_151_40]
      simp (disch := omega) only [q_151_0, q_151_1, q_151_4, q_151_6, q_151_9, q_151_10, q_151_11, q_151_12, q_151_13, q_151_14, q_151_17, q_151_19, q_151_20, q_151_21, q_151_23, q_151_24, q_151_27, q_151_28, q_151_29, q_151_30, q_151_32, q_151_35, q_151_37, q_151_38, q_151_42, q_151_44, q_151_47, q_151_48, q_151_49, q_151_51, q_151_52, q_151_53, q_151_56, q_151_57, q_151_58, q_151_60, q_151_62, q_151_63, q_151_64, q_151_67, q_151_68, q_151_69, q_151_71, q_151_73, q_151_76, q_151_78, q_151_79, q_151_82, q_151_85, q_151_86, q_151_88, q_151_89, q_151_e, va_rf_s, bz_0, bz_1, bz_ok, bb_ok, Nat.add_assoc, w_lt, w_add, w_sub, w_mul, w_div, em_def, w_eq, w_inT, ↓ilt_t, ↓ilt_f, ↓ieq_t, ↓ieq_f, ntT, w_b, w_ix, kx_v, kx_n, kl_n, kl_i, kl_r, kl_o, inA_i, inA_s, inA_b, inA_z, inA_l, inA_0, inA_4, inA_5, inA_6, inA_7, inA_8, inA_9, inA_10, al_0, al_1, al_2, al_4, al_5, al_98, bsP_2, bsP_3, wr_same, wr_wr, wr_ne, up_same, up_ne, Nat.reduceAdd, Int.reduceAdd, Int.reduceSub, Int.reduceMul, Int.reduceLT, Int.reduceLE, Int.reduceEq, Int.reduceNeg, Int.reduceToNat, Nat.reduceLT, Nat.reduceLeDiff, Nat.reduceEqDiff, ↓reduceIte, true_and, and_true, not_true_eq_false, not_false_eq_true, eq_self, or_true, true_or, or_false, false_or, if_true, if_false, Int.toNat_natCast, w_ite, Nat.add_zero, reduceCtorEq, ne_eq, h1, h2, e1, e2, w_255]
      have ih' := ih (k + 1)
      simp only [Int.natCast_add, Int.natCast_one] at ih'
      split
      · rename_i hz
        rw [ih' _ (by omega)]
      · exact Iff.rfl
  have h0 := lp (min s.length t.length) 0 none (by omega)
  simp only [List.drop_zero, Int.natCast_zero] at h0
  have hm : (if (t.length : Int) < s.length then (t.length : Int) else s.length) = (min s.length t.length : Nat) := by split <;> omega
  simp (disch := omega) only [q_151_0, q_151_1, q_151_4, q_151_6, q_151_9, q_151_10, q_151_11, q_151_12, q_151_13, q_151_14, q_151_17, q_151_19, q_151_20, q_151_21, q_151_23, q_151_24, q_151_27, q_151_28, q_151_29, q_151_30, q_151_32, q_151_35, q_151_37, q_151_38, q_151_42, q_151_44, q_151_47, q_151_48, q_151_49, q_151_51, q_151_52, q_151_53, q_151_56, q_151_57, q_151_58, q_151_60, q_151_62, q_151_63, q_151_64, q_151_67, q_151_68, q_151_69, q_151_71, q_151_73, q_151_76, q_151_78, q_151_79, q_151_82, q_151_85, q_151_86, q_151_88, q_151_89, q_151_e, va_rf_s, bz_0, bz_1, bz_ok, bb_ok, Nat.add_assoc, w_lt, w_add, w_sub, w_mul, w_div, em_def, w_eq, w_inT, ↓ilt_t, ↓ilt_f, ↓ieq_t, ↓ieq_f, ntT, w_b, w_ix, kx_v, kx_n, kl_n, kl_i, kl_r, kl_o, inA_i, inA_s, inA_b, inA_z, inA_l, inA_0, inA_4, inA_5, inA_6, inA_7, inA_8, inA_9, inA_10, al_0, al_1, al_2, al_4, al_5, al_98, bsP_2, bsP_3, wr_same, wr_wr, wr_ne, up_same, up_ne, Nat.reduceAdd, Int.reduceAdd, Int.reduceSub, Int.reduceMul, Int.reduceLT, Int.reduceLE, Int.reduceEq, Int.reduceNeg, Int.reduceToNat, Nat.reduceLT, Nat.reduceLeDiff, Nat.reduceEqDiff, ↓reduceIte, true_and, and_true, not_true_eq_false, not_false_eq_true, eq_self, or_true, true_or, or_false, false_or, if_true, if_false, Int.toNat_natCast, w_ite, Nat.add_zero, reduceCtorEq, ne_eq, h1, h2]
  rw [hm, h0, if_neg (by omega), if_neg (by omega)]
end

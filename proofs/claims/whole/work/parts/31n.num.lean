/-! laws of w and wl; read over write -/
theorem w_add (a b : Int) : w a + w b = w (a + b) := (Int32.ofInt_add a b).symm
theorem w_sub (a b : Int) : w a - w b = w (a - b) := (Int32.ofInt_sub a b).symm
theorem w_mul (a b : Int) : w a * w b = w (a * b) := (Int32.ofInt_mul a b).symm
theorem w_toInt {a : Int} (h1 : -2147483648 ≤ a) (h2 : a < 2147483648) : (w a).toInt = a := Int32.toInt_ofInt_of_le h1 h2
theorem w_self (x : Int32) : w x.toInt = x := Int32.ofInt_toInt x
theorem w_lt {a b : Int} (h1 : -2147483648 ≤ a) (h2 : a < 2147483648) (h3 : -2147483648 ≤ b) (h4 : b < 2147483648) : w a < w b ↔ a < b := by
  rw [Int32.lt_iff_toInt_lt, w_toInt h1 h2, w_toInt h3 h4]
theorem w_eq {a b : Int} (h1 : -2147483648 ≤ a) (h2 : a < 2147483648) (h3 : -2147483648 ≤ b) (h4 : b < 2147483648) : w a = w b ↔ a = b := by
  rw [← Int32.toInt_inj, w_toInt h1 h2, w_toInt h3 h4]
theorem w_ix {a : Int} (h1 : -2147483648 ≤ a) (h2 : a < 2147483648) : ix (w a) = a.toNat := Int32.toNatClampNeg_ofInt_of_le h1 h2
theorem w_in {a : Int} {n : Nat} (h1 : -2147483648 ≤ a) (h2 : a < 2147483648) : x_in (w a) n = true ↔ 0 ≤ a ∧ a < n := by
  unfold x_in
  rw [w_0, Bool.and_eq_true, Bool.not_eq_true', decide_eq_false_iff_not, decide_eq_true_iff, w_lt h1 h2 (by decide) (by decide)]
  have := w_ix h1 h2
  unfold ix at this
  rw [this]
  omega
theorem w_div {a b : Int} (h1 : 0 ≤ a) (h2 : a < 2147483648) (h3 : 0 < b) (h4 : b < 2147483648) : w a / w b = w (a / b) := by
  have e := Int32.ofInt_tdiv (a := a) (b := b) (by show (-2147483648 : Int) ≤ a; omega) (by show a ≤ (2147483647 : Int); omega) (by show (-2147483648 : Int) ≤ b; omega) (by show b ≤ (2147483647 : Int); omega)
  unfold w
  rw [← e, Int.tdiv_eq_ediv_of_nonneg h1]
theorem em_def (a b : Int) : a - a / b * b = a % b := by
  rw [Int.emod_def, Int.mul_comm]
theorem bm_8 (a : Int) : a.bmod 256 = if a % 256 < 128 then a % 256 else a % 256 - 256 := by
  rw [Int.bmod_def]; rfl
theorem bm_32 (a : Int) : a.bmod 4294967296 = if a % 4294967296 < 2147483648 then a % 4294967296 else a % 4294967296 - 4294967296 := by
  rw [Int.bmod_def]; rfl
theorem w_bm {a : Int} : (w a).toInt8.toInt32 = w (a.bmod 256) := by
  apply Int32.toInt_inj.mp
  have e : (w a).toInt = a.bmod 4294967296 := Int32.toInt_ofInt
  have h1 : -2147483648 ≤ a.bmod 256 ∧ a.bmod 256 < 2147483648 := by rw [bm_8]; split <;> omega
  rw [Int8.toInt_toInt32, Int32.toInt_toInt8, e, w_toInt h1.1 h1.2]
  show (a.bmod 4294967296).bmod 256 = a.bmod 256
  rw [bm_8, bm_8, bm_32]
  split <;> split <;> split <;> omega
theorem w_b {a : Int} (h1 : -128 ≤ a) (h2 : a < 128) : (w a).toInt8.toInt32 = w a := by
  rw [w_bm, bm_8]
  split <;> (congr 1; omega)
theorem w_l {a : Int} (h1 : -2147483648 ≤ a) (h2 : a < 2147483648) : (w a).toInt64 = wl a :=
  Int32.toInt64_ofInt (by show (-2147483648 : Int) ≤ a; omega) (by show a ≤ (2147483647 : Int); omega)
theorem wl_i (a : Int) : (wl a).toInt32 = w a := Int64.toInt32_ofInt
theorem wl_add (a b : Int) : wl a + wl b = wl (a + b) := (Int64.ofInt_add a b).symm
theorem wl_sub (a b : Int) : wl a - wl b = wl (a - b) := (Int64.ofInt_sub a b).symm
theorem wl_mul (a b : Int) : wl a * wl b = wl (a * b) := (Int64.ofInt_mul a b).symm
theorem wl_toInt {a : Int} (h1 : -9223372036854775808 ≤ a) (h2 : a < 9223372036854775808) : (wl a).toInt = a := Int64.toInt_ofInt_of_le h1 h2
theorem wl_lt {a b : Int} (h1 : -9223372036854775808 ≤ a) (h2 : a < 9223372036854775808) (h3 : -9223372036854775808 ≤ b) (h4 : b < 9223372036854775808) : wl a < wl b ↔ a < b := by
  rw [Int64.lt_iff_toInt_lt, wl_toInt h1 h2, wl_toInt h3 h4]
theorem wl_eq {a b : Int} (h1 : -9223372036854775808 ≤ a) (h2 : a < 9223372036854775808) (h3 : -9223372036854775808 ≤ b) (h4 : b < 9223372036854775808) : wl a = wl b ↔ a = b := by
  rw [← Int64.toInt_inj, wl_toInt h1 h2, wl_toInt h3 h4]
theorem wl_cmp {a b : Int} (h1 : -9223372036854775808 ≤ a) (h2 : a < 9223372036854775808) (h3 : -9223372036854775808 ≤ b) (h4 : b < 9223372036854775808) : lg_cmp (wl a) (wl b) = w (if b < a then 1 else if a = b then 0 else -1) := by
  have e1 : (wl a > wl b) = (b < a) := propext (wl_lt h3 h4 h1 h2)
  have e2 : (wl a = wl b) = (a = b) := propext (wl_eq h1 h2 h3 h4)
  unfold lg_cmp
  by_cases g : b < a
  · rw [if_pos (by rw [e1]; exact g), if_pos g]; rfl
  · rw [if_neg (by rw [e1]; exact g), if_neg g]
    by_cases g2 : a = b
    · rw [if_pos (by rw [e2]; exact g2), if_pos g2]; rfl
    · rw [if_neg (by rw [e2]; exact g2), if_neg g2]; rfl
theorem w_ite {c : Prop} [Decidable c] {a b : Int} : (if c then w a else w b) = w (if c then a else b) := by
  split <;> rfl
theorem inA_i {n : Nat} {x : Int32} : inA (some (.inl (0, n))) ok_i x ↔ x_in x n = true := ⟨fun h => h.2, fun h => ⟨rfl, h⟩⟩
theorem inA_s {n : Nat} {x : Int32} : inA (some (.inl (98, n))) ok_i x ↔ x_in x n = true := ⟨fun h => h.2, fun h => ⟨rfl, h⟩⟩
theorem inA_b {n : Nat} {x : Int32} : inA (some (.inl (2, n))) ok_b x ↔ x_in x n = true := ⟨fun h => h.2, fun h => ⟨rfl, h⟩⟩
theorem inA_z {n : Nat} {x : Int32} : inA (some (.inl (3, n))) ok_b x ↔ x_in x n = true := ⟨fun h => h.2, fun h => ⟨rfl, h⟩⟩
theorem inA_l {n : Nat} {x : Int32} : inA (some (.inl (1, n))) ok_l x ↔ x_in x n = true := ⟨fun h => h.2, fun h => ⟨rfl, h⟩⟩
theorem inA_0 {n : Nat} {x : Int32} : inA (some (.inl (0, n))) ok_0 x ↔ x_in x n = true := ⟨fun h => h.2, fun h => ⟨rfl, h⟩⟩
theorem inA_4 {n : Nat} {x : Int32} : inA (some (.inl (4, n))) ok_q x ↔ x_in x n = true := ⟨fun h => h.2, fun h => ⟨rfl, h⟩⟩
theorem inA_5 {n : Nat} {x : Int32} : inA (some (.inl (5, n))) ok_q x ↔ x_in x n = true := ⟨fun h => h.2, fun h => ⟨rfl, h⟩⟩
theorem inA_6 {n : Nat} {x : Int32} : inA (some (.inl (6, n))) ok_q x ↔ x_in x n = true := ⟨fun h => h.2, fun h => ⟨rfl, h⟩⟩
theorem inA_7 {n : Nat} {x : Int32} : inA (some (.inl (7, n))) ok_q x ↔ x_in x n = true := ⟨fun h => h.2, fun h => ⟨rfl, h⟩⟩
theorem inA_8 {n : Nat} {x : Int32} : inA (some (.inl (8, n))) ok_q x ↔ x_in x n = true := ⟨fun h => h.2, fun h => ⟨rfl, h⟩⟩
theorem inA_9 {n : Nat} {x : Int32} : inA (some (.inl (9, n))) ok_q x ↔ x_in x n = true := ⟨fun h => h.2, fun h => ⟨rfl, h⟩⟩
theorem inA_10 {n : Nat} {x : Int32} : inA (some (.inl (10, n))) ok_q x ↔ x_in x n = true := ⟨fun h => h.2, fun h => ⟨rfl, h⟩⟩
theorem al_0 {n : Nat} {K : Int32 → Prop} : alP (some (.inl (0, n))) K ↔ K (w n) := by rw [alP_arr, w_nat]; exact ⟨fun h => h.2, fun h => ⟨by decide, h⟩⟩
theorem al_1 {n : Nat} {K : Int32 → Prop} : alP (some (.inl (1, n))) K ↔ K (w n) := by rw [alP_arr, w_nat]; exact ⟨fun h => h.2, fun h => ⟨by decide, h⟩⟩
theorem al_2 {n : Nat} {K : Int32 → Prop} : alP (some (.inl (2, n))) K ↔ K (w n) := by rw [alP_arr, w_nat]; exact ⟨fun h => h.2, fun h => ⟨by decide, h⟩⟩
theorem al_4 {n : Nat} {K : Int32 → Prop} : alP (some (.inl (4, n))) K ↔ K (w n) := by rw [alP_arr, w_nat]; exact ⟨fun h => h.2, fun h => ⟨by decide, h⟩⟩
theorem al_5 {n : Nat} {K : Int32 → Prop} : alP (some (.inl (5, n))) K ↔ K (w n) := by rw [alP_arr, w_nat]; exact ⟨fun h => h.2, fun h => ⟨by decide, h⟩⟩
theorem al_98 {n : Nat} {K : Int32 → Prop} : alP (some (.inl (98, n))) K ↔ K (w n) := by rw [alP_arr, w_nat]; exact ⟨fun h => h.2, fun h => ⟨by decide, h⟩⟩

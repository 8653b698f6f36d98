/-! speaks: the recursion is closed -/
theorem say_2 {rs : List Rl} {f : Nat} {op : List Int} {a z : Int} (h : z < 0 ∨ 999999999 < z) : say rs f op a z = .inr [(z, 2, -1, -1)] := by
  cases f <;> (unfold say; rw [if_pos h])
theorem say_3 {rs : List Rl} {f : Nat} {op : List Int} {a z : Int} (h : ¬ (z < 0 ∨ 999999999 < z)) (h3 : z ∈ op) : say rs f op a z = .inr [(z, 3, -1, -1)] := by
  cases f <;> (unfold say; rw [if_neg h, if_pos h3])
theorem say_4 {rs : List Rl} {op : List Int} {a z : Int} (h : ¬ (z < 0 ∨ 999999999 < z)) (h3 : ¬ z ∈ op) : say rs 0 op a z = .inr [(z, 4, -1, -1)] := by
  unfold say; rw [if_neg h, if_neg h3]
theorem say_6 {rs : List Rl} {f : Nat} {op : List Int} {a z : Int} (h : ¬ (z < 0 ∨ 999999999 < z)) (h3 : ¬ z ∈ op) (h6 : 1000 < a) : say rs (f + 1) op a z = .inr [(z, 6, -1, -1)] := by
  unfold say; rw [if_neg h, if_neg h3, if_pos h6]
theorem say_1 {rs : List Rl} {f : Nat} {op : List Int} {a z : Int} (h : ¬ (z < 0 ∨ 999999999 < z)) (h3 : ¬ z ∈ op) (h6 : ¬ 1000 < a) (h1 : ff rs z = none) : say rs (f + 1) op a z = .inr [(z, 1, -1, -1)] := by
  unfold say; rw [if_neg h, if_neg h3, if_neg h6, h1]
theorem say_k {rs : List Rl} {f k : Nat} {ρ : Rl} {op : List Int} {a z : Int} (h : ¬ (z < 0 ∨ 999999999 < z)) (h3 : ¬ z ∈ op) (h6 : ¬ 1000 < a) (h1 : ff rs z = some k) (h2 : rs[k]? = some ρ) : say rs (f + 1) op a z = sayIs (say rs f (z :: op)) z k ρ.2.2.2.2 0 [] false a := by
  unfold say; rw [if_neg h, if_neg h3, if_neg h6, h1]
  dsimp only
  rw [h2]
theorem ubit_or {I : MI} {v k j : Nat} (hk : k < 31) : (I v 4 ||| w 1 <<< (w k &&& 31)).toBitVec.getLsbD j = (ubit I v j || (decide (j = k) && decide (j < 32))) := by
  have e : (w (k : Int) &&& 31).toBitVec = BitVec.ofNat 32 k := by
    match k, hk with
    | 0, _ => decide
    | 1, _ => decide
    | 2, _ => decide
    | 3, _ => decide
    | 4, _ => decide
    | 5, _ => decide
    | 6, _ => decide
    | 7, _ => decide
    | 8, _ => decide
    | 9, _ => decide
    | 10, _ => decide
    | 11, _ => decide
    | 12, _ => decide
    | 13, _ => decide
    | 14, _ => decide
    | 15, _ => decide
    | 16, _ => decide
    | 17, _ => decide
    | 18, _ => decide
    | 19, _ => decide
    | 20, _ => decide
    | 21, _ => decide
    | 22, _ => decide
    | 23, _ => decide
    | 24, _ => decide
    | 25, _ => decide
    | 26, _ => decide
    | 27, _ => decide
    | 28, _ => decide
    | 29, _ => decide
    | 30, _ => decide
    | k + 31, h => omega
  show ((I v 4).toBitVec ||| ((w 1).toBitVec <<< ((w (k : Int) &&& 31).toBitVec.smod 32))).getLsbD j = _
  rw [e, BitVec.getLsbD_or]
  unfold ubit
  congr 1
  have e2 : (BitVec.ofNat 32 k).smod 32 = BitVec.ofNat 32 k := by
    match k, hk with
    | 0, _ => decide
    | 1, _ => decide
    | 2, _ => decide
    | 3, _ => decide
    | 4, _ => decide
    | 5, _ => decide
    | 6, _ => decide
    | 7, _ => decide
    | 8, _ => decide
    | 9, _ => decide
    | 10, _ => decide
    | 11, _ => decide
    | 12, _ => decide
    | 13, _ => decide
    | 14, _ => decide
    | 15, _ => decide
    | 16, _ => decide
    | 17, _ => decide
    | 18, _ => decide
    | 19, _ => decide
    | 20, _ => decide
    | 21, _ => decide
    | 22, _ => decide
    | 23, _ => decide
    | 24, _ => decide
    | 25, _ => decide
    | 26, _ => decide
    | 27, _ => decide
    | 28, _ => decide
    | 29, _ => decide
    | 30, _ => decide
    | k + 31, h => omega
  rw [e2]
  show ((w 1).toBitVec <<< (BitVec.ofNat 32 k).toNat).getLsbD j = _
  rw [BitVec.toNat_ofNat, Nat.mod_eq_of_lt (by omega), BitVec.getLsbD_shiftLeft]
  show (decide (j < 32) && !decide (j < k) && (1#32).getLsbD (j - k)) = _
  by_cases h1 : j = k
  · subst h1
    simp
  · by_cases h2 : j < k
    · simp [h1, h2]
    · have h3 : j - k ≠ 0 := by omega
      simp [h1, h2, BitVec.getLsbD_one, h3]
theorem MInv.facts {rs : List Rl} {I : MI} {v : Nat} {n : Int} (h : MInv rs I v) (hs : mSaid I (v + 1) n = true) : ∃ x : EV, ev rs 30 n = some x ∧ x.2.1 ≤ 1000 ∧ gi I (v + 5) (sl n) = x.2.1 ∧ gi I (v + 6) (sl n) = x.2.2 ∧ I (v + 4) (sl n) = w x.1.length ∧ Txt (I (v + 2)) (sl n * 100) x.1 := by
  unfold mSaid at hs
  simp only [Nat.add_assoc, Nat.reduceAdd, Bool.and_eq_true, decide_eq_true_eq, Bool.not_eq_true', decide_eq_false_iff_not] at hs
  obtain ⟨⟨h1, h2⟩, h3⟩ := hs
  have hm := h (sl n) (sl_bd n)
  unfold mOk at hm
  rw [h2] at hm
  rcases hm with hm | ⟨-, -, -, hm | ⟨x, x1, x2, x3, x4, x5, x6⟩⟩
  · omega
  · exact absurd hm.1 h3
  · have hp := ev_pos _ _ _ x1
    exact ⟨x, x1, x2, gi_eq x4 (by omega) (by omega), gi_eq x5 (by omega) (by omega), x3, x6⟩

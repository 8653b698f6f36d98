theorem mps_ch {tx : Nat → List Int} : ∀ (f : Nat) (A : List Nat) (wd : Nat), 1 ≤ wd → A.length ≤ f * (2 * wd) → Ch tx wd A → Ch tx (2 * wd) (mps (kle tx) wd f A)
  | 0, A, wd, h1, h, hc => by
    intro i
    unfold mps
    simp
  | f + 1, A, wd, h1, h, hc => by
    have hf : (A.drop (2 * wd)).length ≤ f * (2 * wd) := by rw [List.length_drop, Nat.add_mul] at *; omega
    have hB : Ch tx wd (A.drop (2 * wd)) := by
      intro i
      have := hc (i + 2)
      rw [List.drop_drop, List.drop_drop]
      rw [show 2 * wd + i * wd = (i + 2) * wd by rw [Nat.add_mul]; omega, show 2 * wd + (i + 1) * wd = (i + 2 + 1) * wd by simp only [Nat.add_mul]; omega]
      exact this
    have ih := mps_ch f _ wd h1 hf hB
    unfold mps
    by_cases e : A = []
    · rw [if_pos e]; intro i; simp
    · rw [if_neg e]
      have c0 := hc 0
      have c1 := hc 1
      simp only [Nat.zero_mul, List.drop_zero, Nat.zero_add, Nat.one_mul] at c0 c1
      have hM : (mg (kle tx) (A.take wd) ((A.drop wd).take wd)).Pairwise (klt tx) := mg_srt _ _ c0.1 c1.1 (fun x hx y hy => c0.2 x hx y (List.mem_of_mem_take hy))
      have hMl : (mg (kle tx) (A.take wd) ((A.drop wd).take wd)).length = min (2 * wd) A.length := by
        rw [mg_len, List.length_take, List.length_take, List.length_drop]; omega
      have hMm : ∀ x ∈ mg (kle tx) (A.take wd) ((A.drop wd).take wd), ∀ y ∈ mps (kle tx) wd f (A.drop (2 * wd)), x < y := by
        intro x hx y hy
        have hy := (mps_mem f _ wd y hf).mp hy
        rcases (mg_mem _ _ x).mp hx with h | h
        · refine c0.2 x h y ?_
          rw [show 2 * wd = wd + wd by omega, ← List.drop_drop] at hy
          exact List.mem_of_mem_drop hy
        · refine c1.2 x h y ?_
          rw [show (1 + 1) * wd = 2 * wd by omega]; exact hy
      generalize mg (kle tx) (A.take wd) ((A.drop wd).take wd) = M at hM hMl hMm ⊢
      intro i
      by_cases hl : A.length ≤ 2 * wd
      · have hnil : mps (kle tx) wd f (A.drop (2 * wd)) = [] := by
          apply List.eq_nil_of_length_eq_zero
          rw [mps_len f _ wd h1 hf, List.length_drop]; omega
        rw [hnil, List.append_nil]
        match i with
        | 0 =>
          rw [Nat.zero_mul, List.drop_zero, List.take_of_length_le (by omega)]
          refine ⟨hM, fun x _ y hy => ?_⟩
          rw [List.drop_eq_nil_of_le (by omega)] at hy
          cases hy
        | i + 1 =>
          rw [List.drop_eq_nil_of_le (by rw [Nat.add_mul]; omega)]
          simp
      · have hMl : M.length = 2 * wd := by omega
        match i with
        | 0 =>
          rw [Nat.zero_mul, List.drop_zero, List.take_left' hMl]
          refine ⟨hM, fun x hx y hy => hMm x hx y ?_⟩
          rw [Nat.zero_add, Nat.one_mul, List.drop_left' hMl] at hy
          exact hy
        | i + 1 =>
          have := ih i
          rw [show (i + 1) * (2 * wd) = 2 * wd + i * (2 * wd) by rw [Nat.add_mul]; omega, ← List.drop_drop, List.drop_left' hMl, show (i + 1 + 1) * (2 * wd) = 2 * wd + (i + 1) * (2 * wd) by rw [Nat.add_mul (i + 1)]; omega, ← List.drop_drop, List.drop_left' hMl]
          exact this
def msr (le : Nat → Nat → Bool) : Nat → Nat → List Nat → List Nat
  | 0, _, A => A
  | f + 1, wd, A => if wd < A.length then msr le f (2 * wd) (mps le wd A.length A) else A
theorem len_mul {n wd : Nat} (h : 1 ≤ wd) : n ≤ n * (2 * wd) := Nat.le_mul_of_pos_right n (by omega)
theorem msr_mem {le : Nat → Nat → Bool} : ∀ (f wd : Nat) (A : List Nat) (z : Nat), 1 ≤ wd → (z ∈ msr le f wd A ↔ z ∈ A)
  | 0, wd, A, z, _ => Iff.rfl
  | f + 1, wd, A, z, h => by
    unfold msr
    split
    · rw [msr_mem f _ _ z (by omega), mps_mem _ _ _ _ (len_mul h)]
    · exact Iff.rfl
theorem msr_len {le : Nat → Nat → Bool} : ∀ (f wd : Nat) (A : List Nat), 1 ≤ wd → (msr le f wd A).length = A.length
  | 0, wd, A, _ => rfl
  | f + 1, wd, A, h => by
    unfold msr
    split
    · rw [msr_len f _ _ (by omega), mps_len _ _ _ h (len_mul h)]
    · rfl
theorem msr_srt {tx : Nat → List Int} : ∀ (f wd : Nat) (A : List Nat), 1 ≤ wd → A.length ≤ wd * 2 ^ f → Ch tx wd A → (msr (kle tx) f wd A).Pairwise (klt tx)
  | 0, wd, A, h, hl, hc => by
    have := (hc 0).1
    rw [Nat.zero_mul, List.drop_zero, List.take_of_length_le (by simpa using hl)] at this
    exact this
  | f + 1, wd, A, h, hl, hc => by
    unfold msr
    split
    · refine msr_srt f _ _ (by omega) ?_ (mps_ch _ _ _ h (len_mul h) hc)
      rw [mps_len _ _ _ h (len_mul h)]
      rw [Nat.pow_succ, ← Nat.mul_assoc] at hl
      rw [Nat.mul_comm 2 wd, Nat.mul_right_comm]
      exact hl
    · have := (hc 0).1
      rw [Nat.zero_mul, List.drop_zero, List.take_of_length_le (by omega)] at this
      exact this
theorem Ch_one {tx : Nat → List Int} {A : List Nat} (h : A.Pairwise (· < ·)) : Ch tx 1 A := by
  intro i
  rw [Nat.mul_one, Nat.mul_one]
  have hd := h.sublist (List.drop_sublist i A)
  cases e : A.drop i with
  | nil =>
    simp
  | cons x r =>
    rw [e] at hd
    refine ⟨?_, fun a ha b hb => ?_⟩
    · show ([x] : List Nat).Pairwise (klt tx)
      exact List.pairwise_singleton _ _
    · have ha : a = x := by simpa using ha
      have e2 : A.drop (i + 1) = r := by rw [← List.drop_drop, e]; rfl
      rw [e2] at hb
      rw [ha]
      exact (List.pairwise_cons.mp hd).1 b hb
/-- what is said of a number; nothing of a silent one -/
def tx (rs : List Rl) (n : Nat) : List Int := (T rs n).getD []
def saidl (rs : List Rl) (h : Nat) : List Nat := (List.range (h + 1)).filter (fun n => (T rs n).isSome)
def ordl (rs : List Rl) (h : Nat) : List Nat := msr (kle (tx rs)) (saidl rs h).length 1 (saidl rs h)
theorem saidl_mem {rs : List Rl} {h n : Nat} : n ∈ saidl rs h ↔ n ≤ h ∧ (T rs n).isSome = true := by
  unfold saidl; rw [List.mem_filter, List.mem_range]; constructor
  · rintro ⟨a, b⟩; exact ⟨by omega, b⟩
  · rintro ⟨a, b⟩; exact ⟨by omega, b⟩
theorem saidl_lt {rs : List Rl} {h : Nat} : (saidl rs h).Pairwise (· < ·) := List.pairwise_lt_range.sublist (List.filter_sublist)
theorem saidl_len {rs : List Rl} {h : Nat} : (saidl rs h).length ≤ h + 1 := by
  have := List.length_filter_le (fun n : Nat => (T rs n).isSome) (List.range (h + 1))
  rw [List.length_range] at this
  exact this
theorem ordl_mem {rs : List Rl} {h n : Nat} : n ∈ ordl rs h ↔ n ≤ h ∧ (T rs n).isSome = true := by
  unfold ordl; rw [msr_mem _ _ _ _ (by decide), saidl_mem]
theorem ordl_len {rs : List Rl} {h : Nat} : (ordl rs h).length = (saidl rs h).length := msr_len _ _ _ (by decide)
theorem ordl_srt {rs : List Rl} {h : Nat} : (ordl rs h).Pairwise (klt (tx rs)) :=
  msr_srt _ _ _ (by decide) (by rw [Nat.one_mul]; exact Nat.le_of_lt Nat.lt_two_pow_self) (Ch_one saidl_lt)
/-- whatever is in this order is this -/
theorem ordl_uniq {rs : List Rl} {h : Nat} {L : List Nat} (h1 : L.Pairwise (klt (tx rs))) (h2 : ∀ n, n ∈ L ↔ n ≤ h ∧ (T rs n).isSome = true) : L = ordl rs h :=
  klt_uniq h1 ordl_srt (fun x => by rw [h2, ordl_mem])

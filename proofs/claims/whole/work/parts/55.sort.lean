/-! sorting, as lists -/
theorem lexc_neg : ∀ s t : List Int, lexc s t = -(lexc t s)
  | [], [] => rfl
  | [], y :: t => by unfold lexc; omega
  | x :: s, [] => by unfold lexc; omega
  | x :: s, y :: t => by
    have := lexc_neg s t
    unfold lexc
    by_cases h : x % 256 - y % 256 = 0
    · rw [if_pos h, if_pos (by omega)]; exact this
    · rw [if_neg h, if_neg (by omega)]; omega
theorem lexc_tr : ∀ s t u : List Int, lexc s t ≤ 0 → lexc t u ≤ 0 → lexc s u ≤ 0 ∧ (lexc s u = 0 → lexc s t = 0 ∧ lexc t u = 0)
  | [], t, u, h1, h2 => by
    have e : lexc [] u = -(u.length : Int) := by unfold lexc; rfl
    rw [e]
    refine ⟨by omega, fun h => ?_⟩
    cases u with
    | cons => rw [List.length_cons] at h; omega
    | nil =>
      cases t with
      | nil => exact ⟨rfl, rfl⟩
      | cons y t => unfold lexc at h2; rw [List.length_cons] at h2; omega
  | x :: s, [], u, h1, h2 => by unfold lexc at h1; rw [List.length_cons] at h1; omega
  | x :: s, y :: t, [], h1, h2 => by unfold lexc at h2; rw [List.length_cons] at h2; omega
  | x :: s, y :: t, z :: u, h1, h2 => by
    have ih := lexc_tr s t u
    unfold lexc at h1 h2 ⊢
    by_cases a : x % 256 - y % 256 = 0
    · rw [if_pos a] at h1 ⊢
      by_cases b : y % 256 - z % 256 = 0
      · rw [if_pos b] at h2 ⊢
        rw [if_pos (by omega)]
        exact ih h1 h2
      · rw [if_neg b] at h2 ⊢
        rw [if_neg (by omega)]
        exact ⟨by omega, fun h => by omega⟩
    · rw [if_neg a] at h1 ⊢
      by_cases b : y % 256 - z % 256 = 0
      · rw [if_pos b] at h2 ⊢
        rw [if_neg (by omega)]
        exact ⟨by omega, fun h => by omega⟩
      · rw [if_neg b] at h2 ⊢
        rw [if_neg (by omega)]
        exact ⟨by omega, fun h => by omega⟩
section
variable {tx : Nat → List Int}
def kle (tx : Nat → List Int) (a b : Nat) : Bool := decide (lexc (tx a) (tx b) ≤ 0)
def klt (tx : Nat → List Int) (a b : Nat) : Prop := lexc (tx a) (tx b) < 0 ∨ (lexc (tx a) (tx b) = 0 ∧ a < b)
theorem klt.tr {a b c : Nat} (h1 : klt tx a b) (h2 : klt tx b c) : klt tx a c := by
  unfold klt at *
  have h := lexc_tr (tx a) (tx b) (tx c) (by omega) (by omega)
  omega
theorem klt.irr {a : Nat} : ¬ klt tx a a := by
  unfold klt
  have := lexc_neg (tx a) (tx a)
  omega
theorem klt.as {a b : Nat} (h1 : klt tx a b) (h2 : klt tx b a) : False := klt.irr (h1.tr h2)
theorem klt.tot {a b : Nat} (h : a ≠ b) : klt tx a b ∨ klt tx b a := by
  unfold klt
  have := lexc_neg (tx a) (tx b)
  omega
/-- the only list of these that is in order -/
theorem klt_uniq : ∀ {L M : List Nat}, L.Pairwise (klt tx) → M.Pairwise (klt tx) → (∀ x, x ∈ L ↔ x ∈ M) → L = M
  | [], [], _, _, _ => rfl
  | [], y :: M, _, _, h => by have := (h y).mpr (List.mem_cons_self ..); cases this
  | x :: L, [], _, _, h => by have := (h x).mp (List.mem_cons_self ..); cases this
  | x :: L, y :: M, hL, hM, h => by
    rw [List.pairwise_cons] at hL hM
    have e : x = y := by
      apply Classical.byContradiction
      intro ne
      have h1 := (h x).mp (List.mem_cons_self ..)
      have h2 := (h y).mpr (List.mem_cons_self ..)
      rcases List.mem_cons.mp h1 with h1 | h1
      · exact ne h1
      · rcases List.mem_cons.mp h2 with h2 | h2
        · exact ne h2.symm
        · exact klt.as (hL.1 y h2) (hM.1 x h1)
    subst e
    congr 1
    refine klt_uniq hL.2 hM.2 (fun z => ?_)
    constructor
    · intro hz
      rcases List.mem_cons.mp ((h z).mp (List.mem_cons_of_mem _ hz)) with e | e
      · subst e; exact absurd (hL.1 z hz) klt.irr
      · exact e
    · intro hz
      rcases List.mem_cons.mp ((h z).mpr (List.mem_cons_of_mem _ hz)) with e | e
      · subst e; exact absurd (hM.1 z hz) klt.irr
      · exact e
def mg (le : Nat → Nat → Bool) : List Nat → List Nat → List Nat
  | [], ys => ys
  | x :: xs, [] => x :: xs
  | x :: xs, y :: ys => if le x y = true then x :: mg le xs (y :: ys) else y :: mg le (x :: xs) ys
termination_by xs ys => xs.length + ys.length
variable {le : Nat → Nat → Bool}
theorem mg_nil {ys : List Nat} : mg le [] ys = ys := by unfold mg; rfl
theorem mg_nil2 {xs : List Nat} : mg le xs [] = xs := by cases xs <;> (unfold mg; rfl)
theorem mg_cons {x y : Nat} {xs ys : List Nat} : mg le (x :: xs) (y :: ys) = if le x y = true then x :: mg le xs (y :: ys) else y :: mg le (x :: xs) ys := by rw [mg]
theorem mg_len : ∀ (xs ys : List Nat), (mg le xs ys).length = xs.length + ys.length
  | [], ys => by rw [mg_nil, List.length_nil, Nat.zero_add]
  | x :: xs, [] => by rw [mg_nil2]; rfl
  | x :: xs, y :: ys => by
    rw [mg_cons]
    split
    · rw [List.length_cons, mg_len xs (y :: ys)]; simp only [List.length_cons]; omega
    · rw [List.length_cons, mg_len (x :: xs) ys]; simp only [List.length_cons]; omega
termination_by xs ys => xs.length + ys.length
theorem mg_mem : ∀ (xs ys : List Nat) (z : Nat), z ∈ mg le xs ys ↔ z ∈ xs ∨ z ∈ ys
  | [], ys, z => by rw [mg_nil]; simp
  | x :: xs, [], z => by rw [mg_nil2]; simp
  | x :: xs, y :: ys, z => by
    rw [mg_cons]
    split
    · rw [List.mem_cons, mg_mem xs (y :: ys), List.mem_cons (l := xs)]
      constructor
      · rintro (h | h | h)
        · exact Or.inl (Or.inl h)
        · exact Or.inl (Or.inr h)
        · exact Or.inr h
      · rintro ((h | h) | h)
        · exact Or.inl h
        · exact Or.inr (Or.inl h)
        · exact Or.inr (Or.inr h)
    · rw [List.mem_cons, mg_mem (x :: xs) ys, List.mem_cons (l := ys)]
      constructor
      · rintro (h | h | h)
        · exact Or.inr (Or.inl h)
        · exact Or.inl h
        · exact Or.inr (Or.inr h)
      · rintro (h | h | h)
        · exact Or.inr (Or.inl h)
        · exact Or.inl h
        · exact Or.inr (Or.inr h)
termination_by xs ys => xs.length + ys.length
theorem mg_srt : ∀ (xs ys : List Nat), xs.Pairwise (klt tx) → ys.Pairwise (klt tx) → (∀ x ∈ xs, ∀ y ∈ ys, x < y) → (mg (kle tx) xs ys).Pairwise (klt tx)
  | [], ys, _, h, _ => by rw [mg_nil]; exact h
  | x :: xs, [], h, _, _ => by rw [mg_nil2]; exact h
  | x :: xs, y :: ys, hx, hy, hc => by
    have hx' := List.pairwise_cons.mp hx
    have hy' := List.pairwise_cons.mp hy
    have hxy := hc x (List.mem_cons_self ..) y (List.mem_cons_self ..)
    rw [mg_cons]
    split
    · rename_i hle
      have hle : lexc (tx x) (tx y) ≤ 0 := by simpa [kle] using hle
      have kxy : klt tx x y := by unfold klt; omega
      refine List.pairwise_cons.mpr ⟨fun z hz => ?_, mg_srt xs (y :: ys) hx'.2 hy (fun a ha b hb => hc a (List.mem_cons_of_mem _ ha) b hb)⟩
      rcases (mg_mem _ _ z).mp hz with h | h
      · exact hx'.1 z h
      · rcases List.mem_cons.mp h with h | h
        · subst h; exact kxy
        · exact kxy.tr (hy'.1 z h)
    · rename_i hle
      have hle : ¬ lexc (tx x) (tx y) ≤ 0 := by simpa [kle] using hle
      have kyx : klt tx y x := by
        unfold klt
        have := lexc_neg (tx x) (tx y)
        omega
      refine List.pairwise_cons.mpr ⟨fun z hz => ?_, mg_srt (x :: xs) ys hx hy'.2 (fun a ha b hb => hc a ha b (List.mem_cons_of_mem _ hb))⟩
      rcases (mg_mem _ _ z).mp hz with h | h
      · rcases List.mem_cons.mp h with h | h
        · subst h; exact kyx
        · exact kyx.tr (hx'.1 z h)
      · exact hy'.1 z h
termination_by xs ys => xs.length + ys.length
/-- one pass over pieces of a width -/
def mps (le : Nat → Nat → Bool) (wd : Nat) : Nat → List Nat → List Nat
  | 0, _ => []
  | f + 1, A => if A = [] then [] else mg le (A.take wd) ((A.drop wd).take wd) ++ mps le wd f (A.drop (2 * wd))
/-- a list of pieces: each of the width but the last; each in order; numbers of one piece less than those of the pieces behind -/
def Ch (tx : Nat → List Int) (wd : Nat) (A : List Nat) : Prop := ∀ i, ((A.drop (i * wd)).take wd).Pairwise (klt tx) ∧ ∀ x ∈ (A.drop (i * wd)).take wd, ∀ y ∈ A.drop ((i + 1) * wd), x < y
theorem mps_len : ∀ (f : Nat) (A : List Nat) (wd : Nat), 1 ≤ wd → A.length ≤ f * (2 * wd) → (mps le wd f A).length = A.length
  | 0, A, wd, h1, h => by
    have : A = [] := List.eq_nil_of_length_eq_zero (by omega)
    subst this; rfl
  | f + 1, A, wd, h1, h => by
    unfold mps
    split
    · rename_i e; subst e; rfl
    · rw [List.length_append, mg_len, mps_len f _ wd h1 (by rw [List.length_drop, Nat.add_mul] at *; omega)]
      simp only [List.length_take, List.length_drop]
      omega
theorem mps_mem : ∀ (f : Nat) (A : List Nat) (wd : Nat) (z : Nat), A.length ≤ f * (2 * wd) → (z ∈ mps le wd f A ↔ z ∈ A)
  | 0, A, wd, z, h => by
    have : A = [] := List.eq_nil_of_length_eq_zero (by omega)
    subst this; exact Iff.rfl
  | f + 1, A, wd, z, h => by
    unfold mps
    split
    · rename_i e; subst e; exact Iff.rfl
    · rw [List.mem_append, mg_mem, mps_mem f _ wd z (by rw [List.length_drop, Nat.add_mul] at *; omega)]
      have e1 : A = A.take wd ++ ((A.drop wd).take wd ++ A.drop (2 * wd)) := by
        conv => lhs; rw [← List.take_append_drop wd A, ← List.take_append_drop wd (A.drop wd), List.drop_drop]
        rw [show wd + wd = 2 * wd by omega]
      conv => rhs; rw [e1]
      rw [List.mem_append, List.mem_append]
      constructor
      · rintro ((h | h) | h)
        · exact Or.inl h
        · exact Or.inr (Or.inl h)
        · exact Or.inr (Or.inr h)
      · rintro (h | h | h)
        · exact Or.inl (Or.inl h)
        · exact Or.inl (Or.inr h)
        · exact Or.inr h
end

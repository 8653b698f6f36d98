/-! cells put behind a heap -/
def ext (A : Hp) (cs : List CE) (n : Nat) : Hp := (fun x => if x < A.2.1 then A.1 x else cs[x - A.2.1]?, A.2.1 + cs.length, A.2.2.1 + n, A.2.2.2)
theorem ext_next {A : Hp} {cs : List CE} {n : Nat} : (ext A cs n).2.1 = A.2.1 + cs.length := rfl
theorem ext_get {A : Hp} {cs : List CE} {n j : Nat} : (ext A cs n).1 (A.2.1 + j) = cs[j]? := by
  show (if A.2.1 + j < A.2.1 then A.1 (A.2.1 + j) else cs[A.2.1 + j - A.2.1]?) = _
  rw [if_neg (by omega), Nat.add_sub_cancel_left]
theorem ext_push {A : Hp} {cs : List CE} {n k : Nat} {e : CE} : h_push (ext A cs n) e k = ext A (cs ++ [e]) (n + k) := by
  refine Prod.ext (funext fun x => ?_) (Prod.ext ?_ (Prod.ext ?_ rfl))
  · show (if x = A.2.1 + cs.length then some e else (if x < A.2.1 then A.1 x else cs[x - A.2.1]?)) = (if x < A.2.1 then A.1 x else (cs ++ [e])[x - A.2.1]?)
    by_cases h : x < A.2.1
    · rw [if_neg (by omega), if_pos h, if_pos h]
    · rw [if_neg h, if_neg h]
      by_cases h2 : x = A.2.1 + cs.length
      · rw [if_pos h2, h2, Nat.add_sub_cancel_left, List.getElem?_append_right (Nat.le_refl _), Nat.sub_self]; rfl
      · rw [if_neg h2]
        by_cases h3 : x - A.2.1 < cs.length
        · rw [List.getElem?_append_left h3]
        · rw [List.getElem?_eq_none (by omega), List.getElem?_eq_none (by rw [List.length_append]; show cs.length + 1 ≤ _; omega)]
  · show A.2.1 + cs.length + 1 = A.2.1 + (cs ++ [e]).length
    rw [List.length_append]; rfl
  · show A.2.2.1 + n + k = A.2.2.1 + (n + k)
    omega
theorem ext_set {A : Hp} {cs : List CE} {n j : Nat} {e : CE} (hj : j < cs.length) : h_set (ext A cs n) (A.2.1 + j) e = ext A (cs.set j e) n := by
  refine Prod.ext (funext fun x => ?_) (Prod.ext ?_ rfl)
  · show (if x = A.2.1 + j then some e else (if x < A.2.1 then A.1 x else cs[x - A.2.1]?)) = (if x < A.2.1 then A.1 x else (cs.set j e)[x - A.2.1]?)
    by_cases h : x < A.2.1
    · rw [if_neg (by omega), if_pos h, if_pos h]
    · rw [if_neg h, if_neg h]
      by_cases h2 : x = A.2.1 + j
      · rw [if_pos h2, h2, Nat.add_sub_cancel_left, List.getElem?_set, if_pos rfl, if_pos hj]
      · rw [if_neg h2, List.getElem?_set, if_neg (by omega)]
  · show A.2.1 + cs.length = A.2.1 + (cs.set j e).length
    rw [List.length_set]
theorem ext_ext {A : Hp} {cs ds : List CE} {n k : Nat} : ext (ext A cs n) ds k = ext A (cs ++ ds) (n + k) := by
  refine Prod.ext (funext fun x => ?_) (Prod.ext ?_ (Prod.ext ?_ rfl))
  · show (if x < A.2.1 + cs.length then (if x < A.2.1 then A.1 x else cs[x - A.2.1]?) else ds[x - (A.2.1 + cs.length)]?) = (if x < A.2.1 then A.1 x else (cs ++ ds)[x - A.2.1]?)
    by_cases h : x < A.2.1
    · rw [if_pos (by omega), if_pos h, if_pos h]
    · rw [if_neg h, if_neg h]
      by_cases h2 : x < A.2.1 + cs.length
      · rw [if_pos h2, List.getElem?_append_left (by omega)]
      · rw [if_neg h2, List.getElem?_append_right (by omega)]
        congr 1; omega
  · show A.2.1 + cs.length + ds.length = A.2.1 + (cs ++ ds).length
    rw [List.length_append, Nat.add_assoc]
  · show A.2.2.1 + n + k = A.2.2.1 + (n + k)
    omega

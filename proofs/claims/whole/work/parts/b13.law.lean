/-! the law holds on the plain machine -/
theorem lw_holds {b L lo : Nat} {xs : Nat → Int32} {str : Nat → Nat} (hL : L ≤ 3072) (hs : y_Str b lo str) : XC 1307 268 [.ref b] (y_A0 b L xs lo str) (fun o A => o = .inl (some (.int 1)) ∧ A.2.1 - lo ≤ 601024 ∧ A.2.2.1 ≤ 7293034) := by
  have e0 : ext (y_A0 b L xs lo str) [] 0 = y_A0 b L xs lo str := ext_nil (a0_none hs)
  show XX (1301 + 6) 268 0 [some (.ref b), none, none, none, none, none, none, none] [] _ _
  rw [← e0]
  refine lw_start ?_
  show XX (1227 + 80) 268 23 [some (.ref b), some (.ref lo), some (.ref (lo + 121)), some (.ref (lo + 6799)), some (.int (w ((0 : Nat) : Int))), none, none, none] [] (bF b L xs lo str) _
  rw [bF_mk]
  have hj : L / 6 ≤ 512 := by omega
  refine rnds hs.1 hL (L / 6) 0 s00 _ _ _ _ _ none none none (by omega) (by omega) (by show 0 + L / 6 ≤ 1000000; omega) (by show 0 + L / 6 ≤ 1000000; omega) (bF_LB hs) (bF_scr hs) fun S' I' L' R' G' hF => ?_
  obtain ⟨-, h1, h2, h3, h4⟩ := hF
  have h2' : G'.1 ≤ lo + 6800 + 121 * (L / 6) := h2
  have h4' : G'.2.1 ≤ 947073 + 756 * (L / 6) := h4
  refine ⟨rfl, ?_, ?_⟩
  · show G'.1 - lo ≤ 601024
    omega
  · show G'.2.1 ≤ 7293034
    omega

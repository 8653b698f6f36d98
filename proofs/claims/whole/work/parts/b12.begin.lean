/-- the cells of before: the script and the texts -/
def y_tx (j : Nat) (i : Nat) : Int32 := ((t_chr j).map Int32.ofNat).getD i 0
def y_A0 (b L : Nat) (xs : Nat → Int32) (lo : Nat) (str : Nat → Nat) : Hp :=
  (fun a => if a = b then some (.inl (98, L, .inl xs)) else if a = str 1 then some (.inl (99, 8, .inl (y_tx 1))) else if a = str 2 then some (.inl (99, 3, .inl (y_tx 2))) else if a = str 3 then some (.inl (99, 2, .inl (y_tx 3))) else if a = str 4 then some (.inl (99, 5, .inl (y_tx 4))) else if a = str 5 then some (.inl (99, 2, .inl (y_tx 5))) else none, lo, 0, str)
def y_Str (b lo : Nat) (str : Nat → Nat) : Prop := b < lo ∧ (∀ j, j < 14 → str j < lo ∧ b ≠ str j) ∧ (∀ i j, 1 ≤ i → i < j → j ≤ 5 → str i ≠ str j) ∧ str 9 = str 1 ∧ str 10 = str 2 ∧ str 11 = str 3 ∧ str 12 = str 4 ∧ str 13 = str 5

theorem j_0 : t_ins 268 0 = some (.new 8) := by decide +kernel
theorem j_3 : t_ins 268 3 = some .dup := by decide +kernel
theorem j_4 : t_ins 268 4 = some (.invokespecial 102) := by decide +kernel
theorem j_7 : t_ins 268 7 = some (.astore_n 1) := by decide +kernel
theorem j_8 : t_ins 268 8 = some (.new 103) := by decide +kernel
theorem j_11 : t_ins 268 11 = some .dup := by decide +kernel
theorem j_12 : t_ins 268 12 = some (.invokespecial 105) := by decide +kernel
theorem j_15 : t_ins 268 15 = some (.astore_n 2) := by decide +kernel
theorem j_16 : t_ins 268 16 = some (.iconst 1) := by decide +kernel
theorem j_17 : t_ins 268 17 = some (.newarray .long) := by decide +kernel
theorem j_19 : t_ins 268 19 = some (.astore_n 3) := by decide +kernel
theorem j_20 : t_ins 268 20 = some (.iconst 0) := by decide +kernel
theorem j_21 : t_ins 268 21 = some (.istore 4) := by decide +kernel
def stc (a : Nat) : List CE := (c_104 a ++ c_152 (a + 121)) ++ [x_arr0 1 1]
theorem l_104' {a : Nat} : (c_104 a).length = 121 := l_104
theorem lw_start {d b : Nat} {Q : XO → Hp → Prop} {A : Hp} (hQ : XX (d + 6) 268 23 [some (.ref b), some (.ref A.2.1), some (.ref (A.2.1 + 121)), some (.ref (A.2.1 + 6799)), some (.int (w 0)), none, none, none] [] (ext A (stc A.2.1) 947073) Q) : XX (d + 6) 268 0 [some (.ref b), none, none, none, none, none, none, none] [] (ext A [] 0) Q := by
  refine rx_mk0 (c := 11) (nf := 13) (n' := 473638) (b := A.2.1) (out := c_104 A.2.1) j_0 j_3 j_4 rfl rfl rfl rfl rfl (Nat.le_of_ble_eq_true rfl) (Nat.le_of_ble_eq_true rfl) rfl rfl rfl (fun h => in_104 (d := d) rfl h) ?_
  refine (c_lcl j_7 rfl rfl).mpr ?_
  show XX (d + 6) 268 8 [some (.ref b), some (.ref A.2.1), none, none, none, none, none, none] [] (ext A (c_104 A.2.1) 473651) Q
  refine rx_mk0 (c := 12) (nf := 50) (n' := 473371) (b := A.2.1 + 121) (out := c_152 (A.2.1 + 121)) j_8 j_11 j_12 rfl rfl rfl rfl rfl (Nat.le_of_ble_eq_true rfl) (Nat.le_of_ble_eq_true rfl) rfl rfl (by rw [l_104']) (fun h => in_152 (by rw [l_104']) h) ?_
  refine (c_lcl j_15 rfl rfl).mpr ?_
  show XX (d + 6) 268 16 [some (.ref b), some (.ref A.2.1), some (.ref (A.2.1 + 121)), none, none, none, none, none] [] (ext A (c_104 A.2.1 ++ c_152 (A.2.1 + 121)) 947072) Q
  refine (c_stk j_16 rfl).mpr ?_
  show XX (d + 6) 268 17 _ [.int (w ((1 : Nat) : Int))] _ Q
  have e : (ext A (c_104 A.2.1 ++ c_152 (A.2.1 + 121)) 947072).2.1 = A.2.1 + 6799 := by rw [ext_next, List.length_append, l_104', l_152]
  rw [rx_arr (n := 1) j_17 rfl (by decide), e, ext_push]
  show XX (d + 6) 268 19 _ _ _ Q
  refine (c_lcl j_19 rfl rfl).mpr ?_
  show XX (d + 6) 268 20 [some (.ref b), some (.ref A.2.1), some (.ref (A.2.1 + 121)), some (.ref (A.2.1 + 6799)), none, none, none, none] [] _ Q
  refine (c_stk j_20 rfl).mpr ?_
  show XX (d + 6) 268 21 _ [.int (w 0)] _ Q
  refine (c_lcl j_21 rfl rfl).mpr ?_
  exact hQ
theorem ext_nil {A : Hp} (h : ∀ x, A.2.1 ≤ x → A.1 x = none) : ext A [] 0 = A := by
  refine Prod.ext (funext fun x => ?_) rfl
  show (if x < A.2.1 then A.1 x else ([] : List CE)[x - A.2.1]?) = A.1 x
  by_cases c : x < A.2.1
  · rw [if_pos c]
  · rw [if_neg c, h x (by omega)]; rfl
section
variable {b L lo : Nat} {xs : Nat → Int32} {str : Nat → Nat}
theorem a0_none (hs : y_Str b lo str) : ∀ x, lo ≤ x → (y_A0 b L xs lo str).1 x = none := by
  intro x hx
  have hne : ∀ j, j < 14 → x ≠ str j := fun j hj h => by have := (hs.2.1 j hj).1; omega
  have hb := hs.1
  unfold y_A0
  dsimp only
  rw [if_neg (by omega), if_neg (hne 1 (by omega)), if_neg (hne 2 (by omega)), if_neg (hne 3 (by omega)), if_neg (hne 4 (by omega)), if_neg (hne 5 (by omega))]
theorem a0_kf : ∀ x e, (y_A0 b L xs lo str).1 x = some e → KF x e := by
  intro x e h
  unfold y_A0 at h
  dsimp only at h
  split at h
  · cases h; rfl
  · split at h
    · cases h; rfl
    · split at h
      · cases h; rfl
      · split at h
        · cases h; rfl
        · split at h
          · cases h; rfl
          · split at h
            · cases h; rfl
            · cases h
theorem a0_str (hs : y_Str b lo str) : (y_A0 b L xs lo str).1 b = some (.inl (98, L, .inl xs)) ∧ (y_A0 b L xs lo str).1 (str 1) = some (.inl (99, 8, .inl (y_tx 1))) ∧ (y_A0 b L xs lo str).1 (str 2) = some (.inl (99, 3, .inl (y_tx 2))) ∧ (y_A0 b L xs lo str).1 (str 3) = some (.inl (99, 2, .inl (y_tx 3))) ∧ (y_A0 b L xs lo str).1 (str 4) = some (.inl (99, 5, .inl (y_tx 4))) ∧ (y_A0 b L xs lo str).1 (str 5) = some (.inl (99, 2, .inl (y_tx 5))) := by
  obtain ⟨h0, h1, h2, -⟩ := hs
  have hb : ∀ j, j < 14 → str j ≠ b := fun j hj h => (h1 j hj).2 h.symm
  have hn : ∀ i j, 1 ≤ i → i < j → j ≤ 5 → str j ≠ str i := fun i j a1 a2 a3 h => h2 i j a1 a2 a3 h.symm
  unfold y_A0
  dsimp only
  refine ⟨if_pos rfl, ?_, ?_, ?_, ?_, ?_⟩
  · rw [if_neg (hb 1 (by omega)), if_pos rfl]
  · rw [if_neg (hb 2 (by omega)), if_neg (hn 1 2 (by omega) (by omega) (by omega)), if_pos rfl]
  · rw [if_neg (hb 3 (by omega)), if_neg (hn 1 3 (by omega) (by omega) (by omega)), if_neg (hn 2 3 (by omega) (by omega) (by omega)), if_pos rfl]
  · rw [if_neg (hb 4 (by omega)), if_neg (hn 1 4 (by omega) (by omega) (by omega)), if_neg (hn 2 4 (by omega) (by omega) (by omega)), if_neg (hn 3 4 (by omega) (by omega) (by omega)), if_pos rfl]
  · rw [if_neg (hb 5 (by omega)), if_neg (hn 1 5 (by omega) (by omega) (by omega)), if_neg (hn 2 5 (by omega) (by omega) (by omega)), if_neg (hn 3 5 (by omega) (by omega) (by omega)), if_neg (hn 4 5 (by omega) (by omega) (by omega)), if_pos rfl]
theorem tx_1 : Txt (y_tx 1) 0 kwL := by unfold Txt; decide +kernel
theorem tx_2 : Txt (y_tx 2) 0 kwSay := by unfold Txt; decide +kernel
theorem tx_3 : Txt (y_tx 3) 0 kwTo := by unfold Txt; decide +kernel
theorem tx_4 : Txt (y_tx 4) 0 kwEv := by unfold Txt; decide +kernel
theorem tx_5 : Txt (y_tx 5) 0 kwAs := by unfold Txt; decide +kernel
/-- the heap of the loop's beginning -/
def bF (b L : Nat) (xs : Nat → Int32) (lo : Nat) (str : Nat → Nat) : Hp := ext (y_A0 b L xs lo str) (stc lo) 947073
theorem bF_lt {x : Nat} (h : x < lo) : (bF b L xs lo str).1 x = (y_A0 b L xs lo str).1 x := if_pos h
theorem bF_has : Has (bF b L xs lo str) lo (stc lo) := Has_of fun j e h => (ext_get (A := y_A0 b L xs lo str) (cs := stc lo) (n := 947073) (j := j)).trans h
theorem l_stc {a : Nat} : (stc a).length = 6800 := by unfold stc; rw [List.length_append, List.length_append, l_104, l_152]; rfl
theorem bF_kf : ∀ x e, (bF b L xs lo str).1 x = some e → KF x e := by
  intro x e h
  by_cases c : x < lo
  · rw [bF_lt c] at h; exact a0_kf x e h
  · have h2 : (stc lo)[x - lo]? = some e := by
      have : (if x < lo then (y_A0 b L xs lo str).1 x else (stc lo)[x - lo]?) = some e := h
      rwa [if_neg c] at this
    have hk : KFl lo (stc lo) := by
      unfold stc
      rw [KFl_app, KFl_app, l_104]
      exact ⟨⟨KFl_c104, KFl_c152⟩, KF_arr (by decide), trivial⟩
    have := Has_at hk h2
    rwa [show lo + (x - lo) = x by omega] at this
theorem bF_mk : bF b L xs lo str = mk (shp (bF b L xs lo str)) (cI (bF b L xs lo str)) (cL (bF b L xs lo str)) (cR (bF b L xs lo str)) (lo + 6800, 947073, str) := by
  have h := mk_of (A := bF b L xs lo str) bF_kf
  have e : (bF b L xs lo str).2 = (lo + 6800, 947073, str) := by
    show (lo + (stc lo).length, 0 + 947073, str) = _
    rw [l_stc, Nat.zero_add]
  rw [e] at h
  exact h
theorem bF_LB (hs : y_Str b lo str) : LB (shp (bF b L xs lo str)) (cI (bF b L xs lo str)) (cL (bF b L xs lo str)) (cR (bF b L xs lo str)) (lo + 6800, 947073, str) lo s00 s00 := by
  have hh : Has (bF b L xs lo str) lo (stc lo) := bF_has
  unfold stc at hh
  rw [Has_app, Has_app, List.length_append, l_104, l_152] at hh
  obtain ⟨⟨g1, g2⟩, g3, -⟩ := hh
  obtain ⟨a0, a1, a2, a3, a4, a5⟩ := a0_str (L := L) (xs := xs) hs
  obtain ⟨-, t1, -, u1, u2, u3, u4, u5⟩ := hs
  have st : ∀ (j n : Nat) (s : List Int), j < 14 → (y_A0 b L xs lo str).1 (str j) = some (.inl (99, n, .inl (y_tx j))) → s.length = n → Txt (y_tx j) 0 s → s.length ≤ 8 → StrAt (shp (bF b L xs lo str)) (cI (bF b L xs lo str)) (str j) s ∧ str j < lo := by
    intro j n s hj h1 h2 h3 h4
    have hl := (t1 j hj).1
    have h1' := (bF_lt (b := b) (L := L) (xs := xs) (str := str) hl).trans h1
    exact ⟨⟨by rw [fS h1', h2]; rfl, by rw [fI h1']; exact h3, h4⟩, hl⟩
  have z1 := st 1 8 kwL (by omega) a1 rfl tx_1 (by decide)
  have z2 := st 2 3 kwSay (by omega) a2 rfl tx_2 (by decide)
  have z3 := st 3 2 kwTo (by omega) a3 rfl tx_3 (by decide)
  have z4 := st 4 5 kwEv (by omega) a4 rfl tx_4 (by decide)
  have z5 := st 5 2 kwAs (by omega) a5 rfl tx_5 (by decide)
  refine ⟨hs_104 g1 (by omega) (Nat.le_refl _), hs_152 g2 (by show _ ≤ lo + 6800; omega), fS g3, ⟨z1, z2, z3, z4, z5⟩, ?_⟩
  show (StrAt _ _ (str 9) _ ∧ str 9 < _) ∧ (StrAt _ _ (str 10) _ ∧ str 10 < _) ∧ (StrAt _ _ (str 11) _ ∧ str 11 < _) ∧ (StrAt _ _ (str 12) _ ∧ str 12 < _) ∧ (StrAt _ _ (str 13) _ ∧ str 13 < _)
  rw [u1, u2, u3, u4, u5]
  exact ⟨z1, z2, z3, z4, z5⟩
theorem bF_scr (hs : y_Str b lo str) : Scr (shp (bF b L xs lo str)) (cI (bF b L xs lo str)) b L (fun j => (xs j).toInt) := by
  have h1 := (bF_lt (b := b) (L := L) (xs := xs) (str := str) hs.1).trans (a0_str (L := L) (xs := xs) hs).1
  refine ⟨fS h1, fun j hj => ⟨?_, Int32.le_toInt _, Int32.toInt_lt _⟩⟩
  rw [fI h1]
  exact (w_self _).symm
end

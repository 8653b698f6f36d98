/-- the cells of before: the script and the texts -/
def y_tx (j : Nat) (i : Nat) : Int32 := ((t_chr j).map Int32.ofNat).getD i 0
def y_A0 (b L : Nat) (xs : Nat → Int32) (lo : Nat) (str : Nat → Nat) : Hp :=
  (fun a => if a = b then some (.inl (98, L, .inl xs)) else if a = str 1 then some (.inl (99, 8, .inl (y_tx 1))) else if a = str 2 then some (.inl (99, 3, .inl (y_tx 2))) else if a = str 3 then some (.inl (99, 2, .inl (y_tx 3))) else if a = str 4 then some (.inl (99, 5, .inl (y_tx 4))) else if a = str 5 then some (.inl (99, 2, .inl (y_tx 5))) else none, lo, 0, str)
def y_Str (b lo : Nat) (str : Nat → Nat) : Prop := b < lo ∧ (∀ j, j < 14 → str j < lo ∧ b ≠ str j) ∧ (∀ i j, 1 ≤ i → i < j → j ≤ 5 → str i ≠ str j) ∧ str 9 = str 1 ∧ str 10 = str 2 ∧ str 11 = str 3 ∧ str 12 = str 4 ∧ str 13 = str 5
/-- the law, on the plain machine -/
def y_law : Prop := ∀ (b L lo : Nat) (xs : Nat → Int32) (str : Nat → Nat), L ≤ 3072 → y_Str b lo str →
  XC 1307 268 [.ref b] (y_A0 b L xs lo str) (fun o A => o = .inl (some (.int 1)) ∧ A.2.1 - lo ≤ 601024 ∧ A.2.2.1 ≤ 7293034)
theorem y_law_holds : y_law := by
  sorry
theorem y_start {p : Program} {s : State} {m : MethodId} {meth : Method} {c : Code} {b L : Nat} {xs : Nat → Int32} (C0 : lw_At p s m meth c b L xs) :
    ∃ (D : va_G) (dA : Nat → ClassId) (str : Nat → Nat), y_Str b s.heap.size str ∧ y_N s ∧ y_V D dA s.heap.size s s.heap (y_A0 b L xs s.heap.size str) s.heap [] := by
  sorry
theorem whole_start {p : Program} {e : Env} {s : State} {m : MethodId} {below : List Frame} {meth : Method} {c : Code} (l : Launch) (hflags : l.flags = flags0) {b L : Nat} {xs : Nat → Int32} (hL : L ≤ 3072) (C0 : lw_At p s m meth c b L xs) : W p l e room_1 s m #[Value.ref b] below meth c s.heap [] 0 0 (lw_Z below #[Value.ref b] s) (entryFrame m ([Value.ref b] : List Value).toArray 8) := by
  have hl : l.stackTraces = false := by
    unfold Launch.stackTraces
    rw [hflags]
    decide +kernel
  obtain ⟨D, dA, str, hS, hN, hV⟩ := y_start C0
  obtain ⟨h1, h2, h3, h4, h5, h6, h7, h8, h9, -⟩ := C0
  obtain ⟨f, o, A', hrun, ho, hcl, hsl⟩ := y_law_holds b L s.heap.size xs str hL hS
  have C : y_C p s m #[.ref b] meth c 268 := ⟨h1, h2, h4, h5, fun w hw _ => h6 w hw, h9, h3, fun h => absurd h (by decide +kernel)⟩
  have hcl' : 0 + (A'.2.1 - (y_A0 b L xs s.heap.size str).2.1) ≤ 601024 := by rw [Nat.zero_add]; exact hcl
  have hsl' : 0 + (A'.2.2.1 - (y_A0 b L xs s.heap.size str).2.2.1) ≤ 7293034 := by rw [Nat.zero_add]; exact hsl
  have hm1 : (x_arg [.ref b]).length ≤ t_maxl 268 := by
    have hm : t_maxl 268 = 8 := by decide +kernel
    rw [hm]
    exact Nat.le_of_ble_eq_true rfl
  rw [lg_entry_eq]
  refine (y_all hl D dA s.heap.size f).1 1307 268 0 (x_entry 268 [.ref b]) [] _ o A' hrun p e room_1 s m #[.ref b] below meth c s.heap [] 0 0 _ _ C hN hV (y_entry (m := 268) (as := [.ref b]) hm1 (lv_entry [.ref b] (n := 8) (Nat.le_of_ble_eq_true rfl))) (x_entry_len hm1) (by decide) (by decide) hcl' hsl' ?_ ?_ ?_ ?_
  · intro pc i ls st H1 locs1 c1 n1 v hd hf hv V1 hc hs
    rw [ho] at hv
    cases hv
    refine va_forget V1.2.2.2.2.2 (W.widen (Nat.le_trans hc hcl') (Nat.le_trans hs hsl') ?_)
    unfold x_fin at hf
    split at hf
    · split at hf <;> cases hf
    · split at hf
      · cases hf
        exact lw_ret h1 h2 h3 h9 hd
      · split at hf
        · cases hf
          exact lw_ret h1 h2 h3 h9 hd
        · cases hf
    · split at hf <;> cases hf
    · split at hf <;> cases hf
    · split at hf <;> cases hf
    · cases hf
  · intro pc i L ls st B H1 locs1 c1 n1 k _ _ hv
    rw [ho] at hv
    cases hv
  · intro pc ls rest H1 locs1 c1 n1 k q ce _ hv
    rw [ho] at hv
    cases hv
  · intro pc k h ls rest H1 locs1 c1 n1 q ce hh
    have h0 : t_han 268 = [] := by decide +kernel
    unfold x_hnd at hh
    rw [h0] at hh
    cases hh

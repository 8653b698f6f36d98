/-! instructions that touch cells: what the plain machine does, the machine does -/
theorem t_find3 {α : Type} {L : List (Nat × Nat × α)} {o i : Nat} {z : α} (h : (L.find? (fun e => e.1 == o && e.2.1 == i)).map (fun e => e.2.2) = some z) : (o, i, z) ∈ L := by
  cases hf : L.find? (fun e => e.1 == o && e.2.1 == i) with
  | none => rw [hf] at h; cases h
  | some e =>
    rw [hf] at h
    obtain ⟨a, b, c⟩ := e
    have h1 := List.find?_some hf
    have h2 := List.mem_of_find?_eq_some hf
    simp only [Bool.and_eq_true, beq_iff_eq] at h1
    cases h
    obtain ⟨rfl, rfl⟩ := h1
    exact h2
theorem y_ty_at (dA : Nat → ClassId) {t : Nat} (h : t < 11) : ∃ ty, (y_tys dA)[t]? = some (dA t, ty) := by
  match t, h with
  | 0, _ => exact ⟨_, rfl⟩
  | 1, _ => exact ⟨_, rfl⟩
  | 2, _ => exact ⟨_, rfl⟩
  | 3, _ => exact ⟨_, rfl⟩
  | 4, _ => exact ⟨_, rfl⟩
  | 5, _ => exact ⟨_, rfl⟩
  | 6, _ => exact ⟨_, rfl⟩
  | 7, _ => exact ⟨_, rfl⟩
  | 8, _ => exact ⟨_, rfl⟩
  | 9, _ => exact ⟨_, rfl⟩
  | 10, _ => exact ⟨_, rfl⟩
  | k + 11, h => exact absurd h (by omega)
theorem y_ty_ref (dA : Nat → ClassId) {t : Nat} (h4 : 4 ≤ t) (h : t < 11) : ∃ ty, (y_tys dA)[t]? = some (dA t, ty) ∧ ty.isReference = true := by
  match t, h4, h with
  | 4, _, _ => exact ⟨_, rfl, rfl⟩
  | 5, _, _ => exact ⟨_, rfl, rfl⟩
  | 6, _, _ => exact ⟨_, rfl, rfl⟩
  | 7, _, _ => exact ⟨_, rfl, rfl⟩
  | 8, _, _ => exact ⟨_, rfl, rfl⟩
  | 9, _, _ => exact ⟨_, rfl, rfl⟩
  | 10, _, _ => exact ⟨_, rfl, rfl⟩
  | k + 11, _, h => exact absurd h (by omega)
  | 0, h, _ => exact absurd h (by omega)
  | 1, h, _ => exact absurd h (by omega)
  | 2, h, _ => exact absurd h (by omega)
  | 3, h, _ => exact absurd h (by omega)
theorem y_nn : lw_tbl.all (fun w => match w with | .fieldLinkNest o _ r _ _ _ => o != r | _ => true) = true := by decide +kernel
theorem y_noNest {o n d h : String} {i : Nat} (hm : Cond.fieldLinkNest o i o n d h ∈ lw_tbl) : False := by
  have := List.all_eq_true.mp y_nn _ hm
  simp at this
section YM
variable {p : Program} {l : Launch} {e : Env} {R : Room} {s : State} {m : MethodId} {args : Array Value} {below : List Frame} {meth : Method} {c : Code} {H : Heap} {locs : List Loc} {cells slots : Nat} {Q : State → Prop}
variable {pc mm : Nat} {ls : Array Slot} {D : va_G} {dA : Nat → ClassId} {lo : Nat} {A : Hp} {rest : List Value}
theorem y_script {a n : Nat} {f : Nat → Int32} (V : y_V D dA lo s s.heap A H locs) (h : A.1 a = some (.inl (98, n, .inl f))) : va_X a n f s H ∧ a < lo := by
  rcases Nat.lt_or_ge a lo with q | q
  · exact ⟨V.2.1.1 a _ q h, q⟩
  · have := (V.1.2.2 a _ q h).1
    simp [y_ord] at this
theorem y_lo99 {a t n : Nat} {x : Sum (Nat → Int32) (Sum (Nat → Int64) (Sum (Nat → UInt32) (Sum (Nat → UInt64) (Nat → Option Nat))))} (V : y_V D dA lo s s.heap A H locs) (h : A.1 a = some (.inl (t, n, x))) (ht : t < 99) : t < 11 ∨ (t = 98 ∧ ∃ f, x = .inl f) := by
  rcases Nat.lt_or_ge a lo with q | q
  · have h1 := V.2.1.1 a _ q h
    unfold y_spc at h1
    split at h1
    · rename_i h2; cases h2; exact Or.inr ⟨rfl, _, rfl⟩
    · rename_i h2; cases h2; exact absurd ht (by decide)
    · exact absurd h1 id
  · exact Or.inl (V.1.2.2 a _ q h).1
theorem y_here (V : y_V D dA lo s s.heap A H locs) : va_S (fun q => lo ≤ q) H H locs := ⟨Nat.le_refl _, fun _ _ _ => rfl, V.2.2.2.2.2⟩
theorem y_getf {k a ci j : Nat} {v : Value} (C : y_C p s m args meth c mm) (V : y_V D dA lo s s.heap A H locs) (ht : t_fld (t_own mm) k = some (ci, j)) (hv : x_fld A a ci j = some v) (hd : decode (y_by mm) pc = .ok (.getfield k, 3))
    (kk : W p l e R s m args below meth c H locs cells slots Q (F0 m (pc + 3) ls (v :: rest))) : W p l e R s m args below meth c H locs cells slots Q (F0 m pc ls (.ref a :: rest)) := by
  obtain ⟨hx, hb, -, hown, hts, -, -, -⟩ := C
  obtain ⟨r, hr, hj, hlk⟩ := y_fl _ (t_find3 ht)
  dsimp only at hr hj hlk
  obtain ⟨f1, f2, f3, f4, f5, f6, f7⟩ := y_clf ci r hr
  unfold x_fld at hv
  split at hv
  · rename_i c' fs hA
    split at hv
    · rename_i e1
      subst e1
      have hP := V.P hA trivial
      rcases hlk with hlk | ⟨host, hlk⟩
      · exact va_get hx hb (fun w hw => hts w (f1 w hw) (y_ug hw)) (fun _ h => h) hown V.2.2.1 hP 0 (fs := fs) rfl hr j hj (hts _ hlk rfl) (fun _ q => q) hv hd kk
      · exact va_getN hx hb (fun w hw => hts w (f1 w hw) (y_ug hw)) (fun _ h => h) hown V.2.2.1 hP 0 (fs := fs) rfl hr j hj (hts _ hlk rfl) (fun _ q => q) hv hd kk
    · cases hv
  · cases hv
theorem y_putf {k a ci j : Nat} {v : Value} {A' : Hp} (C : y_C p s m args meth c mm) (V : y_V D dA lo s s.heap A H locs) (ht : t_fld (t_own mm) k = some (ci, j)) (hfit : x_fit (t_ft ci j) v = true) (hfin : (!t_fin ci j || (t_isi mm && ci == t_own mm)) = true) (hv : x_fldS A a ci j v = some A') (hd : decode (y_by mm) pc = .ok (.putfield k, 3))
    (kk : ∀ (H1 : Heap) (locs1 : List Loc), y_V D dA lo s s.heap A' H1 locs1 → W p l e R s m args below meth c H1 locs1 cells slots Q (F0 m (pc + 3) ls rest)) : W p l e R s m args below meth c H locs cells slots Q (F0 m pc ls (v :: .ref a :: rest)) := by
  obtain ⟨hx, hb, -, hown, hts, -, -, hini⟩ := C
  obtain ⟨r, hr, hj, hlk⟩ := y_fl _ (t_find3 ht)
  dsimp only at hr hj hlk
  obtain ⟨f1, f2, f3, f4, f5, f6, f7⟩ := y_clf ci r hr
  obtain ⟨g1, g2, g3, g4⟩ := y_clk ci r hr j hj
  rw [← g3] at hfit
  obtain ⟨hn, hft⟩ := y_fit_i hfit
  unfold x_fldS at hv
  split at hv
  · rename_i c' fs hA
    split at hv
    · rename_i e1
      obtain ⟨rfl, hl⟩ := e1
      cases hv
      have hK := V.2.2.1
      have hts' : ∀ w ∈ u_ws r.1 r.2.1 r.2.2, w.before args s = true := fun w hw => hts w (f1 w hw) (y_ug hw)
      have hap := va_apart (own := r.1) hts' (fun _ h => h) (y_TY c') f2 f3 hK hr
      obtain ⟨r', h1, cell, q1, q2, q3, q4⟩ := V.at hA trivial
      have hrr : r' = r := Option.some.inj (h1.symm.trans hr)
      subst hrr
      obtain ⟨hS, hfc, kC, hkC, hkind⟩ := hK.1 c' _ hr
      obtain ⟨cf, kf, fi, f, hi, hsl⟩ := hS j hj
      have hlay := hts' _ (u_in_lay hj)
      unfold u_lay at hlay
      have fin : ∀ (H1 : Heap) (n : Nat), H1[a]? = some (cell.setSlot (D.2 c' j) v) → H1.size = H.size → (∀ q, q ≠ a → H1[q]? = H[q]?) → y_V D dA lo s s.heap (h_set A a (.inr (c', fs.set j v))) H1 (locs ++ [⟨a, n⟩]) := fun H1 n e1 e2 e3 =>
        V.set hA trivial trivial trivial (⟨_, hr, t_OB.to (V := updV (vp_V fs) j v) ⟨_, e1, q2, q3, t_set q4 hap hj v⟩ (fun i _ => vp_updV_set hl v i)⟩ : va_at D vwCl (a, .inr (c', fs.set j v)) H1) e2 e3
      by_cases hf : (r'.2.1 j).2.2.2 = true
      · rw [if_pos hf] at hlay
        rw [← g1, hf] at hfin
        simp only [Bool.not_true, Bool.false_or, Bool.and_eq_true, beq_iff_eq] at hfin
        have hst := (u_facts hfc hkC (u_lays hts' (fun _ h => h) hj) hi).1
        have hcf : m.cls = cf := by
          obtain ⟨_, _, c9, _, _, _, -, -, hf', -, -, -, hown2, -⟩ := Cond.laysFinal_spec hlay
          have e1 : c9 = cf := by have := hi.symm.trans hf'; simp at this; exact this.1.symm
          rw [g2, hfin.2] at hown2
          rw [← e1]; exact Option.some.inj (hown.symm.trans hown2)
        have h6 := u_fits hfc hkC hkind (Or.inr hlay) hi (f2 j hj) hn hft
        rcases hlk with hlk | ⟨host, hlk⟩
        · refine W.putFinK hx hb hown (hts _ hlk rfl) hi hst hcf (hini hfin.1) (by rw [q2]; exact h6) q1 q3 (by rw [hsl]; exact k2_hasslot (q4 j hj)) rfl rfl hd fun H' e1 e2 e3 => ?_
          rw [hsl] at e1
          exact kk H' _ (fin H' _ e1 e2 e3)
        · exfalso
          rw [g2, hfin.2] at hlk
          exact y_noNest hlk
      · rw [if_neg hf] at hlay
        have hst := (u_facts hfc hkC (u_lays hts' (fun _ h => h) hj) hi).1
        have h6 := u_store hfc hkC hkind hlay hi (f2 j hj) hn hft
        rcases hlk with hlk | ⟨host, hlk⟩
        · refine W.putK hx hb (f := f) ⟨hown, hts _ hlk rfl, ⟨_, _, _, hi⟩, hst⟩ (by rw [q2]; exact h6) q1 q3 (by rw [hsl]; exact k2_hasslot (q4 j hj)) rfl rfl hd fun H' e1 e2 e3 => ?_
          rw [hsl] at e1
          exact kk H' _ (fin H' _ e1 e2 e3)
        · refine va_WputK hx hb (f := f) hown (hts _ hlk rfl) hi hst (by rw [q2]; exact h6) q1 q3 (by rw [hsl]; exact k2_hasslot (q4 j hj)) rfl rfl hd fun H' e1 e2 e3 => ?_
          rw [hsl] at e1
          exact kk H' _ (fin H' _ e1 e2 e3)
    · cases hv
  · cases hv
theorem x_ai_i {a : Nat} {i : Int32} {ok : Nat → Bool} {v : Int32} (h : x_ai A a i ok = some v) : ∃ t n f, A.1 a = some (.inl (t, n, .inl f)) ∧ ok t = true ∧ vp_in i n ∧ v = f i.toNatClampNeg := by
  unfold x_ai at h
  split at h
  · rename_i t n f hA
    split at h
    · rename_i hc
      rw [Bool.and_eq_true] at hc
      cases h
      exact ⟨t, n, f, hA, hc.1, x_in_i hc.2, rfl⟩
    · cases h
  · cases h
theorem y_iald {a : Nat} {i v : Int32} (C : y_C p s m args meth c mm) (V : y_V D dA lo s s.heap A H locs) (hv : x_ai A a i (fun t => t == 0 || t == 98) = some v) (hd : decode (y_by mm) pc = .ok (.iaload, 1))
    (kk : W p l e R s m args below meth c H locs cells slots Q (F0 m (pc + 1) ls (.int v :: rest))) : W p l e R s m args below meth c H locs cells slots Q (F0 m pc ls (.int i :: .ref a :: rest)) := by
  obtain ⟨hx, hb, -⟩ := C
  obtain ⟨t, n, f, hA, hok, hin, rfl⟩ := x_ai_i hv
  rw [Bool.or_eq_true, beq_iff_eq, beq_iff_eq] at hok
  rcases hok with rfl | rfl
  · exact va_iald hx hb V.2.2.1 (V.P hA (by simp [y_ord])) 0 0 (f := f) rfl rfl hin hd kk
  · obtain ⟨hX, hl⟩ := y_script V hA
    exact va_sld (A := fun q => lo ≤ q) hx hb hX (Nat.lt_of_lt_of_le hl V.1.2.1) (Nat.not_le.mpr hl) (y_here V) hin hd kk
theorem y_bald {a : Nat} {i v : Int32} (C : y_C p s m args meth c mm) (V : y_V D dA lo s s.heap A H locs) (hv : x_ai A a i (fun t => t == 2 || t == 3) = some v) (hd : decode (y_by mm) pc = .ok (.baload, 1))
    (kk : W p l e R s m args below meth c H locs cells slots Q (F0 m (pc + 1) ls (.int v :: rest))) : W p l e R s m args below meth c H locs cells slots Q (F0 m pc ls (.int i :: .ref a :: rest)) := by
  obtain ⟨hx, hb, -⟩ := C
  obtain ⟨t, n, f, hA, hok, hin, rfl⟩ := x_ai_i hv
  rw [Bool.or_eq_true, beq_iff_eq, beq_iff_eq] at hok
  rcases hok with rfl | rfl
  · exact va_bald hx hb V.2.2.1 (V.P hA (by simp [y_ord])) 0 2 (f := f) rfl rfl hin hd kk
  · exact va_zald hx hb V.2.2.1 (V.P hA (by simp [y_ord])) 0 3 (f := f) rfl rfl hin hd kk
theorem y_lald {a : Nat} {i : Int32} {v : Int64} (C : y_C p s m args meth c mm) (V : y_V D dA lo s s.heap A H locs) (hv : x_al A a i = some v) (hd : decode (y_by mm) pc = .ok (.laload, 1))
    (kk : W p l e R s m args below meth c H locs cells slots Q (F0 m (pc + 1) ls (.long v :: rest))) : W p l e R s m args below meth c H locs cells slots Q (F0 m pc ls (.int i :: .ref a :: rest)) := by
  obtain ⟨hx, hb, -⟩ := C
  unfold x_al at hv
  split at hv
  · rename_i t n f hA
    split at hv
    · rename_i hc
      rw [Bool.and_eq_true, beq_iff_eq] at hc
      obtain ⟨rfl, hin⟩ := hc
      cases hv
      exact va_lald hx hb V.2.2.1 (V.P hA (by simp [y_ord])) 0 1 (f := f) rfl rfl (x_in_i hin) hd kk
    · cases hv
  · cases hv
theorem y_aald {a : Nat} {i : Int32} {v : Option Nat} (C : y_C p s m args meth c mm) (V : y_V D dA lo s s.heap A H locs) (hv : x_aq A a i = some v) (hd : decode (y_by mm) pc = .ok (.aaload, 1))
    (kk : W p l e R s m args below meth c H locs cells slots Q (F0 m (pc + 1) ls (va_rf v :: rest))) : W p l e R s m args below meth c H locs cells slots Q (F0 m pc ls (.int i :: .ref a :: rest)) := by
  obtain ⟨hx, hb, -⟩ := C
  unfold x_aq at hv
  split at hv
  · rename_i t n f hA
    split at hv
    · rename_i hc
      simp only [Bool.and_eq_true, decide_eq_true_eq] at hc
      obtain ⟨⟨h4, h11⟩, hin⟩ := hc
      cases hv
      have hin := x_in_i hin
      have hlt : i.toNatClampNeg < n := Nat.not_le.mp fun q => hin (Or.inr q)
      obtain ⟨ty, hty, href⟩ := y_ty_ref dA h4 h11
      have hcell : H[a]? = some (vp_cell (dA t) (n, .inr (.inr (.inr (.inr f))))) := V.at hA (by simpa [y_ord] using h11)
      rw [vp_cell_q] at hcell
      exact W.aald hx hb hcell ((V.2.2.1.2 t _ hty).1 n (fun j => va_rf (f j))) href (fun q => by cases q) (by show ¬ (i < 0 ∨ (arrV _ _ _).slots.size ≤ _); rw [arrV_size]; exact hin) (by show (arrV _ _ _).slots[_]? = _; rw [arrV_read _ _ hlt]) rfl rfl hd kk
    · cases hv
  · cases hv
theorem y_alen {a n : Nat} (C : y_C p s m args meth c mm) (V : y_V D dA lo s s.heap A H locs) (hv : x_alen A a = some n) (hd : decode (y_by mm) pc = .ok (.arraylength, 1))
    (kk : W p l e R s m args below meth c H locs cells slots Q (F0 m (pc + 1) ls (.int (Int32.ofNat n) :: rest))) : W p l e R s m args below meth c H locs cells slots Q (F0 m pc ls (.ref a :: rest)) := by
  obtain ⟨hx, hb, -⟩ := C
  unfold x_alen at hv
  split at hv
  · rename_i t k x hA
    split at hv
    · rename_i ht
      cases hv
      rcases y_lo99 V hA ht with h11 | ⟨rfl, f, hf⟩
      · obtain ⟨ty, hty⟩ := y_ty_at dA h11
        exact va_alen hx hb V.2.2.1 (V.P hA (by simpa [y_ord] using h11)) 0 t rfl hty rfl hd kk
      · subst hf
        obtain ⟨hX, hl⟩ := y_script V hA
        exact va_slen (A := fun q => lo ≤ q) hx hb hX (Nat.lt_of_lt_of_le hl V.1.2.1) (Nat.not_le.mpr hl) (y_here V) hd kk
    · cases hv
  · cases hv
theorem y_upd {cI n k : Nat} {f : Nat → Int32} {x : Int32} : arrV cI n (updV (fun j => .int (f j)) k (.int x)) = vp_cell cI (n, .inl (upd f k x)) := by
  rw [vp_cell_i]
  exact congrArg (arrV cI n) (funext fun j => by unfold updV upd; split <;> rfl)
theorem y_iast {a : Nat} {i x : Int32} {A' : Hp} (C : y_C p s m args meth c mm) (V : y_V D dA lo s s.heap A H locs) (hv : x_aiS A a i x = some A') (hd : decode (y_by mm) pc = .ok (.iastore, 1))
    (kk : ∀ (H1 : Heap) (locs1 : List Loc), y_V D dA lo s s.heap A' H1 locs1 → W p l e R s m args below meth c H1 locs1 cells slots Q (F0 m (pc + 1) ls rest)) : W p l e R s m args below meth c H locs cells slots Q (F0 m pc ls (.int x :: .int i :: .ref a :: rest)) := by
  obtain ⟨hx, hb, -⟩ := C
  unfold x_aiS at hv
  split at hv
  · rename_i t n f hA
    split at hv
    · rename_i hc
      rw [Bool.and_eq_true, beq_iff_eq] at hc
      obtain ⟨rfl, hin⟩ := hc
      cases hv
      have hin := x_in_i hin
      have hcell : H[a]? = some (vp_cell (dA 0) (n, .inl f)) := V.at hA (by simp [y_ord])
      refine W.iast hx hb hcell ((V.2.2.1.2 0 _ rfl).1 n (fun j => .int (f j))) (fun q => by cases q) (by show ¬ (i < 0 ∨ (arrV _ _ _).slots.size ≤ _); rw [arrV_size]; exact hin) rfl rfl hd fun H1 e1 e2 e3 => ?_
      refine kk H1 _ (V.set hA (by simp [y_ord]) (by simp [y_ord]) trivial ?_ e2 e3)
      show H1[a]? = some (vp_cell (dA 0) _)
      rw [e1, vp_cell_i, arrV_store, y_upd]
    · cases hv
  · cases hv
theorem y_nar_b (x : Int32) : fits .byte (.int (vp_nar .byte x)) = true := by rw [vp_nar_byte]; exact pk_fb x
theorem y_bast {a : Nat} {i x : Int32} {A' : Hp} (C : y_C p s m args meth c mm) (V : y_V D dA lo s s.heap A H locs) (hv : x_abS A a i x = some A') (hd : decode (y_by mm) pc = .ok (.bastore, 1))
    (kk : ∀ (H1 : Heap) (locs1 : List Loc), y_V D dA lo s s.heap A' H1 locs1 → W p l e R s m args below meth c H1 locs1 cells slots Q (F0 m (pc + 1) ls rest)) : W p l e R s m args below meth c H locs cells slots Q (F0 m pc ls (.int x :: .int i :: .ref a :: rest)) := by
  obtain ⟨hx, hb, -⟩ := C
  unfold x_abS at hv
  split at hv
  · rename_i t n f hA
    split at hv
    · rename_i hc
      rw [Bool.and_eq_true, beq_iff_eq] at hc
      obtain ⟨rfl, hin⟩ := hc
      cases hv
      have hin := x_in_i hin
      have hcell : H[a]? = some (vp_cell (dA 2) (n, .inl f)) := V.at hA (by simp [y_ord])
      have hfb : ∀ j, fits .byte (.int (f j)) = true := (V.1.2.2 a _ (V.lo hA (by simp [y_ord])) hA).2.1
      refine W.bast hx hb hcell ((V.2.2.1.2 2 _ rfl).1 n (fun j => .int (f j))) (fun q => by cases q) (by show ¬ (i < 0 ∨ (arrV _ _ _).slots.size ≤ _); rw [arrV_size]; exact hin) rfl rfl hd fun H1 e1 e2 e3 => ?_
      refine kk H1 _ (V.set hA (by simp [y_ord]) (by simp [y_ord]) ?_ ?_ e2 e3)
      · show ∀ j, fits .byte (.int (upd f i.toNatClampNeg (vp_nar .byte x) j)) = true
        intro j
        unfold upd
        split
        · exact y_nar_b x
        · exact hfb j
      · show H1[a]? = some (vp_cell (dA 2) _)
        rw [e1, vp_cell_i, arrV_store, show narrow .byte (.int x) = .int (vp_nar .byte x) from rfl, y_upd]
    · split at hv
      · rename_i hc
        rw [Bool.and_eq_true, beq_iff_eq] at hc
        obtain ⟨rfl, hin⟩ := hc
        cases hv
        have hin := x_in_i hin
        have hcell : H[a]? = some (vp_cell (dA 3) (n, .inl f)) := V.at hA (by simp [y_ord])
        refine W.zast hx hb hcell ((V.2.2.1.2 3 _ rfl).1 n (fun j => .int (f j))) (fun q => by cases q) (by show ¬ (i < 0 ∨ (arrV _ _ _).slots.size ≤ _); rw [arrV_size]; exact hin) rfl rfl hd fun H1 e1 e2 e3 => ?_
        refine kk H1 _ (V.set hA (by simp [y_ord]) (by simp [y_ord]) trivial ?_ e2 e3)
        show H1[a]? = some (vp_cell (dA 3) _)
        rw [e1, vp_cell_i, arrV_store, show narrow .boolean (.int x) = .int (vp_nar .boolean x) from rfl, y_upd]
      · cases hv
  · cases hv
theorem y_last {a : Nat} {i : Int32} {x : Int64} {A' : Hp} (C : y_C p s m args meth c mm) (V : y_V D dA lo s s.heap A H locs) (hv : x_alS A a i x = some A') (hd : decode (y_by mm) pc = .ok (.lastore, 1))
    (kk : ∀ (H1 : Heap) (locs1 : List Loc), y_V D dA lo s s.heap A' H1 locs1 → W p l e R s m args below meth c H1 locs1 cells slots Q (F0 m (pc + 1) ls rest)) : W p l e R s m args below meth c H locs cells slots Q (F0 m pc ls (.long x :: .int i :: .ref a :: rest)) := by
  obtain ⟨hx, hb, -⟩ := C
  unfold x_alS at hv
  split at hv
  · rename_i t n f hA
    split at hv
    · rename_i hc
      rw [Bool.and_eq_true, beq_iff_eq] at hc
      obtain ⟨rfl, hin⟩ := hc
      cases hv
      have hin := x_in_i hin
      have hcell : H[a]? = some (vp_cell (dA 1) (n, .inr (.inl f))) := V.at hA (by simp [y_ord])
      refine W.last hx hb hcell ((V.2.2.1.2 1 _ rfl).1 n (fun j => .long (f j))) (fun q => by cases q) (by show ¬ (i < 0 ∨ (arrV _ _ _).slots.size ≤ _); rw [arrV_size]; exact hin) rfl rfl hd fun H1 e1 e2 e3 => ?_
      refine kk H1 _ (V.set hA (by simp [y_ord]) (by simp [y_ord]) trivial ?_ e2 e3)
      show H1[a]? = some (vp_cell (dA 1) _)
      rw [e1, vp_cell_l, arrV_store, vp_cell_l]
      exact congrArg (fun g => some (arrV (dA 1) n g)) (funext fun j => by unfold updV vp_updL; split <;> rfl)
    · cases hv
  · cases hv
theorem x_cls_i {a k : Nat} (h : x_cls A a = some k) : ∃ fs, A.1 a = some (.inr (k, fs)) := by
  unfold x_cls at h
  split at h
  · rename_i c' fs hA; cases h; exact ⟨fs, hA⟩
  · cases h
theorem y_aqOk {t k : Nat} (h : x_aqOk t k = true) : t < 11 ∧ ∃ r, vwCl[k]? = some r ∧ ∀ dA, (y_tys dA)[t]? = some (dA t, .object r.1) := by
  unfold x_aqOk at h
  simp only [Bool.or_eq_true, Bool.and_eq_true, beq_iff_eq] at h
  rcases h with ⟨rfl, rfl⟩ | ⟨rfl, rfl⟩
  · exact ⟨by decide, _, rfl, fun _ => rfl⟩
  · exact ⟨by decide, _, rfl, fun _ => rfl⟩
theorem y_updq {cI n k : Nat} {f : Nat → Option Nat} {x : Option Nat} : arrV cI n (updV (fun j => va_rf (f j)) k (va_rf x)) = vp_cell cI (n, .inr (.inr (.inr (.inr (va_up f k x))))) := by
  rw [vp_cell_q]
  exact congrArg (arrV cI n) (funext fun j => by unfold updV va_up; split <;> rfl)
theorem y_aast {a y : Nat} {i : Int32} {A' : Hp} (C : y_C p s m args meth c mm) (V : y_V D dA lo s s.heap A H locs) (hv : x_aqS A a i y = some A') (hd : decode (y_by mm) pc = .ok (.aastore, 1))
    (kk : ∀ (H1 : Heap) (locs1 : List Loc), y_V D dA lo s s.heap A' H1 locs1 → W p l e R s m args below meth c H1 locs1 cells slots Q (F0 m (pc + 1) ls rest)) : W p l e R s m args below meth c H locs cells slots Q (F0 m pc ls (.ref y :: .int i :: .ref a :: rest)) := by
  obtain ⟨hx, hb, -⟩ := C
  unfold x_aqS at hv
  split at hv
  · rename_i t n f hA
    split at hv
    · rename_i k hk
      split at hv
      · rename_i hc
        rw [Bool.and_eq_true] at hc
        obtain ⟨hok, hin⟩ := hc
        cases hv
        have hin := x_in_i hin
        have hlt : i.toNatClampNeg < n := Nat.not_le.mp fun q => hin (Or.inr q)
        have h0 : ¬ i < 0 := fun q => hin (Or.inl q)
        obtain ⟨ht, r, hr, hty⟩ := y_aqOk hok
        obtain ⟨fs, hY⟩ := x_cls_i hk
        have hcell : H[a]? = some (vp_cell (dA t) (n, .inr (.inr (.inr (.inr f))))) := V.at hA (by simpa [y_ord] using ht)
        obtain ⟨r', hr', cellV, g1, g2, g3, -⟩ := V.at hY trivial
        have hcls := (V.2.2.1.1 k r hr).2
        obtain ⟨kA, comp, k1, k2, k3, -⟩ := (V.2.2.1.2 t _ (hty dA)).2
        have hcomp : comp = D.1 k := Option.some.inj (k3.symm.trans hcls.1)
        subst hcomp
        obtain ⟨kC, hkC, -⟩ := hcls.2
        refine W.aast hx hb hcell (fun q h => by cases h) (fun h => by cases h) k1 k2 rfl hkC ⟨h0, by show _ < (arrV _ _ _).slots.size; rw [arrV_size]; exact hlt⟩ g1 (fun q h => by rw [g3] at h; cases h) (by rw [g2]; exact hkC) (by rw [g2]; exact va_assign hcls) rfl rfl hd fun H1 e1 e2 e3 => ?_
        refine kk H1 _ (V.set hA (by simpa [y_ord] using ht) (by simpa [y_ord] using ht) (by simp [y_fb]) ?_ e2 e3)
        show H1[a]? = some (vp_cell (dA t) _)
        rw [e1, vp_cell_q, arrV_store]
        exact congrArg some (y_updq (x := some y))
      · cases hv
    · cases hv
  · cases hv
theorem y_aastN {a : Nat} {i : Int32} {A' : Hp} (C : y_C p s m args meth c mm) (V : y_V D dA lo s s.heap A H locs) (hv : x_aqN A a i = some A') (hd : decode (y_by mm) pc = .ok (.aastore, 1))
    (kk : ∀ (H1 : Heap) (locs1 : List Loc), y_V D dA lo s s.heap A' H1 locs1 → W p l e R s m args below meth c H1 locs1 cells slots Q (F0 m (pc + 1) ls rest)) : W p l e R s m args below meth c H locs cells slots Q (F0 m pc ls (.null :: .int i :: .ref a :: rest)) := by
  obtain ⟨hx, hb, -⟩ := C
  unfold x_aqN at hv
  split at hv
  · rename_i t n f hA
    split at hv
    · rename_i hc
      rw [Bool.and_eq_true, Bool.or_eq_true, beq_iff_eq, beq_iff_eq] at hc
      obtain ⟨hok, hin⟩ := hc
      cases hv
      have hin := x_in_i hin
      have ht : t < 11 := by omega
      have hty : ∃ Cn, (y_tys dA)[t]? = some (dA t, .object Cn) := by
        rcases hok with rfl | rfl
        · exact ⟨_, rfl⟩
        · exact ⟨_, rfl⟩
      obtain ⟨Cn, hty⟩ := hty
      have hcell : H[a]? = some (vp_cell (dA t) (n, .inr (.inr (.inr (.inr f))))) := V.at hA (by simpa [y_ord] using ht)
      refine va_WaastN hx hb hcell ((V.2.2.1.2 t _ hty).1 n (fun j => va_rf (f j))) (fun q => by cases q) (by show ¬ (i < 0 ∨ (arrV _ _ _).slots.size ≤ _); rw [arrV_size]; exact hin) rfl rfl hd fun H1 e1 e2 e3 => ?_
      refine kk H1 _ (V.set hA (by simpa [y_ord] using ht) (by simpa [y_ord] using ht) (by simp [y_fb]) ?_ e2 e3)
      show H1[a]? = some (vp_cell (dA t) _)
      rw [e1, vp_cell_q, arrV_store]
      exact congrArg some (y_updq (x := none))
    · cases hv
  · cases hv
end YM

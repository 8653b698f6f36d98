/-! the loop over a rule's items -/
theorem ff_get {rs : List Rl} {n : Int} {k : Nat} (h : ff rs n = some k) : k < rs.length ∧ rl_fit (rs.getD k rd0) n = true := by
  unfold ff at h
  rw [List.findIdx?_eq_some_iff_getElem] at h
  obtain ⟨h1, h2, -⟩ := h
  refine ⟨h1, ?_⟩
  rw [List.getD_eq_getElem?_getD, List.getElem?_eq_getElem h1]
  exact h2
theorem items_drop {its : List It} {i : Nat} (h : i < its.length) : its.drop i = its.getD i d0 :: its.drop (i + 1) := by
  rw [List.drop_eq_getElem_cons h, List.getD_eq_getElem?_getD, List.getElem?_eq_getElem h]; rfl
theorem kind_cases {it : It} (h : itOk it) : it.1 = 6 ∨ it.1 = 0 ∨ (1 ≤ it.1 ∧ it.1 ≤ 5 ∧ 1 ≤ it.2.1 ∧ it.2.1 ≤ 999999) := by
  rcases h with ⟨h, -⟩ | ⟨h1, h2, h3, h4⟩ | ⟨h, -⟩
  · exact Or.inr (Or.inl h)
  · exact Or.inr (Or.inr ⟨h1, h2, h3, h4⟩)
  · exact Or.inl h
theorem want_bd {it : It} {n q : Int} (h : 1 ≤ it.1 ∧ it.1 ≤ 5 ∧ 1 ≤ it.2.1 ∧ it.2.1 ≤ 999999) (h1 : 0 ≤ n) (h2 : n ≤ 999999999) (hw : want it.1 it.2.1 n = some q) : -999999 ≤ q ∧ q ≤ 1000999998 := by
  have m1 := Int.emod_nonneg n (show it.2.1 ≠ 0 by omega)
  have m2 := Int.emod_lt_of_pos n (show 0 < it.2.1 by omega)
  have m3 : 0 ≤ n / it.2.1 := Int.ediv_nonneg h1 (by omega)
  have m4 : n / it.2.1 ≤ n := Int.ediv_le_self _ h1
  unfold want at hw
  split at hw
  · cases hw; omega
  · split at hw
    · split at hw
      · cases hw
      · cases hw; omega
    · split at hw
      · cases hw; omega
      · split at hw
        · cases hw; omega
        · cases hw; omega
theorem want_none {it : It} {n : Int} (h : 1 ≤ it.1 ∧ it.1 ≤ 5) : want it.1 it.2.1 n = none ↔ it.1 = 2 ∧ n % it.2.1 = 0 := by
  unfold want
  by_cases h1 : it.1 = 1
  · simp [h1]
  · by_cases h2 : it.1 = 2
    · simp [h2]
    · by_cases h3 : it.1 = 3
      · simp [h3]
      · by_cases h4 : it.1 = 4
        · simp [h4]
        · simp [h1, h2, h3, h4]
def iend (rs : List Rl) (I' : MI) (v dep : Nat) (n : Int) (its : List It) (t : List Int) (g : Bool) (a : Int) (h : Nat) : List Int → Prop := fun t' => I' (v + 15) dep = w t'.length ∧ Txt (I' (v + 14)) (dep * 100) t' ∧ ∀ a0, ∃ H : Nat, evIs (ev rs 30) n its t g a0 h = some (t', a0 + (gi I' v 9 - a), H) ∧ I' (v + 16) dep = w H
section
variable {ask : Int → Int → SR} {z k i : Int} {it : It} {r : List It} {t : List Int} {g : Bool} {a : Int}
theorem sayIs_6 (h : it.1 = 6) : sayIs ask z k (it :: r) i t g a = sayIs ask z k r (i + 1) t true a := by
  rw [sayIs, if_pos h]
theorem sayIs_w (h0 : it.1 = 0) (hl : ¬ 100 < (cat t g it.2.2).length) : sayIs ask z k (it :: r) i t g a = sayIs ask z k r (i + 1) (cat t g it.2.2) false a := by
  rw [sayIs, if_neg (by omega), if_pos h0, if_neg hl]
theorem sayIs_wl (h0 : it.1 = 0) (hl : 100 < (cat t g it.2.2).length) : sayIs ask z k (it :: r) i t g a = .inr [(z, 5, k, i)] := by
  rw [sayIs, if_neg (by omega), if_pos h0, if_pos hl]
theorem sayIs_n (h6 : ¬ it.1 = 6) (h0 : ¬ it.1 = 0) (hw : want it.1 it.2.1 z = none) : sayIs ask z k (it :: r) i t g a = sayIs ask z k r (i + 1) t g a := by
  rw [sayIs, if_neg h6, if_neg h0, hw]
theorem sayIs_f {q : Int} {l : List C4} (h6 : ¬ it.1 = 6) (h0 : ¬ it.1 = 0) (hw : want it.1 it.2.1 z = some q) (ha : ask (a + 1) q = .inr l) : sayIs ask z k (it :: r) i t g a = .inr ((z, 0, k, i) :: l) := by
  rw [sayIs, if_neg h6, if_neg h0, hw]
  dsimp only
  rw [ha]
theorem sayIs_e {q b : Int} (h6 : ¬ it.1 = 6) (h0 : ¬ it.1 = 0) (hw : want it.1 it.2.1 z = some q) (ha : ask (a + 1) q = .inl ([], b)) : sayIs ask z k (it :: r) i t g a = sayIs ask z k r (i + 1) t g b := by
  rw [sayIs, if_neg h6, if_neg h0, hw]
  dsimp only
  rw [ha]
  rfl
theorem sayIs_p {q b : Int} {p : List Int} (h6 : ¬ it.1 = 6) (h0 : ¬ it.1 = 0) (hw : want it.1 it.2.1 z = some q) (ha : ask (a + 1) q = .inl (p, b)) (hp : p ≠ []) (hl : ¬ 100 < (cat t g p).length) : sayIs ask z k (it :: r) i t g a = sayIs ask z k r (i + 1) (cat t g p) false b := by
  rw [sayIs, if_neg h6, if_neg h0, hw]
  dsimp only
  rw [ha]
  dsimp only
  rw [if_neg hp, if_neg hl]
theorem sayIs_pl {q b : Int} {p : List Int} (h6 : ¬ it.1 = 6) (h0 : ¬ it.1 = 0) (hw : want it.1 it.2.1 z = some q) (ha : ask (a + 1) q = .inl (p, b)) (hp : p ≠ []) (hl : 100 < (cat t g p).length) : sayIs ask z k (it :: r) i t g a = .inr [(z, 5, k, i)] := by
  rw [sayIs, if_neg h6, if_neg h0, hw]
  dsimp only
  rw [ha]
  dsimp only
  rw [if_neg hp, if_pos hl]
end
section
variable {ask : Int → Option EV} {z : Int} {it : It} {r : List It} {t : List Int} {g : Bool} {a : Int} {h : Nat}
theorem evIs_6 (h6 : it.1 = 6) : evIs ask z (it :: r) t g a h = evIs ask z r t true a h := by
  rw [evIs, if_pos h6]
theorem evIs_w (h0 : it.1 = 0) (hl : ¬ 100 < (cat t g it.2.2).length) : evIs ask z (it :: r) t g a h = evIs ask z r (cat t g it.2.2) false a h := by
  rw [evIs, if_neg (by omega), if_pos h0, if_neg hl]
theorem evIs_n (h6 : ¬ it.1 = 6) (h0 : ¬ it.1 = 0) (hw : want it.1 it.2.1 z = none) : evIs ask z (it :: r) t g a h = evIs ask z r t g a h := by
  rw [evIs, if_neg h6, if_neg h0, hw]
theorem evIs_e {q b : Int} {k : Nat} (h6 : ¬ it.1 = 6) (h0 : ¬ it.1 = 0) (hw : want it.1 it.2.1 z = some q) (ha : ask q = some ([], b, k)) : evIs ask z (it :: r) t g a h = evIs ask z r t g (a + 1 + b) (max h (k + 1)) := by
  rw [evIs, if_neg h6, if_neg h0, hw]
  dsimp only
  rw [ha]
  rfl
theorem evIs_p {q b : Int} {k : Nat} {p : List Int} (h6 : ¬ it.1 = 6) (h0 : ¬ it.1 = 0) (hw : want it.1 it.2.1 z = some q) (ha : ask q = some (p, b, k)) (hp : p ≠ []) (hl : ¬ 100 < (cat t g p).length) : evIs ask z (it :: r) t g a h = evIs ask z r (cat t g p) false (a + 1 + b) (max h (k + 1)) := by
  rw [evIs, if_neg h6, if_neg h0, hw]
  dsimp only
  rw [ha]
  dsimp only
  rw [if_neg hp, if_neg hl]
end
theorem back.mono {I I' : MI} {v dep : Nat} {r : SR} {o : Int32} {ok ok' : List Int → Prop} (h : back I I' v dep r o ok) (hm : ∀ t, ok t → ok' t) : back I I' v dep r o ok' := by
  unfold back at h ⊢
  split
  · exact ⟨h.1, h.2.1, hm _ h.2.2⟩
  · exact h
theorem iend.step {rs : List Rl} {I' : MI} {v dep : Nat} {n : Int} {it : It} {r : List It} {t t2 : List Int} {g g2 : Bool} {a a2 : Int} {h h2 : Nat} (e : ∀ a0, evIs (ev rs 30) n (it :: r) t g a0 h = evIs (ev rs 30) n r t2 g2 (a0 + (a2 - a)) h2) {t' : List Int} (hi : iend rs I' v dep n r t2 g2 a2 h2 t') : iend rs I' v dep n (it :: r) t g a h t' := by
  obtain ⟨h1, h2, h3⟩ := hi
  refine ⟨h1, h2, fun a0 => ?_⟩
  obtain ⟨H, h4, h5⟩ := h3 (a0 + (a2 - a))
  refine ⟨H, ?_, h5⟩
  rw [e, h4]
  congr 3
  omega
def agr2 (rs : List Rl) (I' : MI) (v : Nat) (n : Int) (its : List It) (t : List Int) (g : Bool) (h : Nat) (r : SR) : Prop := ∀ k, k < rs.length → ubit I' v k = false → (∃ y, r = .inl y) → ∀ a0, evIs (ev (rs.eraseIdx k) 30) n its t g a0 h = evIs (ev rs 30) n its t g a0 h
section
variable {d : Nat} {Q : XO → Hp → Prop} {S : SH} {I : MI} {L : ML} {R : MR} {G : MG} {A : Hp}
theorem sp_92 {v : Nat} {rs : List Rl} {f e dep k r : Nat} {n : Int} {ρ : Rl} (hV : VoiS S v) (IH : SpkP S L R G v rs f) (he : 2 * f ≤ e) (hfd : f + (dep + 1) = 30) (hR : RsAt S I L R v rs) (n1 : 0 ≤ n) (n2 : n ≤ 999999999) (hk : ff rs n = some k) (hρ : rs.getD k rd0 = ρ) (hr : R (v + 12) k = some r) (hr2 : v + 17 ≤ r) (hρA : RuleAt S I L r ρ) (hwc : I v 10 = w 0 ∨ I v 10 = w 1)
    (hch : chn rs (opl I v dep) n) (hu : ubit I v k = true) (hchU : ∀ k, k < rs.length → ubit I v k = false → chn (rs.eraseIdx k) (opl I v dep) n) (hop : I (v + 13) dep = w n) :
    ∀ (j i : Nat) (t : List Int) (g : Bool) (h : Nat) (I1 : MI) (v7 v8 v9 v10 : Option Value) (Q : XO → Hp → Prop), i + j = ρ.2.2.2.2.length → vpost rs I I1 v dep → I1 (v + 13) dep = w n → I1 (v + 15) dep = w t.length → t.length ≤ 100 → Txt (I1 (v + 14)) (dep * 100) t → I1 (v + 16) dep = w h → h ≤ 31 → 0 ≤ gi I1 v 9 → gi I1 v 9 ≤ 1000 →
    (∀ (o : Int32) (I' : MI), vpost rs I I' v dep → I' (v + 13) dep = w n → (∀ k, ubit I1 v k = true → ubit I' v k = true) → back I I' v dep (sayIs (say rs f (n :: opl I v dep)) n k (ρ.2.2.2.2.drop i) i t g (gi I1 v 9)) o (iend rs I' v dep n (ρ.2.2.2.2.drop i) t g (gi I1 v 9) h) → (∀ k3, agr rs I' v (sayIs (say rs f (n :: opl I v dep)) n k (ρ.2.2.2.2.drop i) i t g (gi I1 v 9)) (fun rs' => sayIs (say rs' f (n :: opl I v dep)) n k3 (ρ.2.2.2.2.drop i) i t g (gi I1 v 9))) → agr2 rs I' v n (ρ.2.2.2.2.drop i) t g h (sayIs (say rs f (n :: opl I v dep)) n k (ρ.2.2.2.2.drop i) i t g (gi I1 v 9)) → Q (.inl (some (.int o))) (mk S I' L R G)) →
    XX (e + 7) 92 45 [some (.ref v), some (.int (w n)), some (.int (w k)), some (.int (w dep)), some (.ref r), some (.int (bz g)), some (.int (w i)), v7, v8, v9, v10] [] (mk S I1 L R G) Q := by
  obtain ⟨g0, g1, g2, g3, g4, g5, g6, g7⟩ := id hV
  have hkl := (ff_get hk).1
  have hrk : rs[k]? = some ρ := by rw [← hρ, List.getD_eq_getElem?_getD, List.getElem?_eq_getElem hkl]; rfl
  have h30 := hR.2.1
  have hil := hρA.2.2.2.2.2.2.2.2.2.2.2.2.2.2.2.2.2.1
  intro j
  induction j with
  | zero =>
    intro i t g h I1 v7 v8 v9 v10 Q hi hp hop1 hl ht hT hh h31 a1 a2 hQ
    have hρ1 : RuleAt S I1 L r ρ := hρA.congr (hp.1 _ (by omega)) (hp.1 _ (by omega)) (hp.1 _ (by omega))
    rw [q_92_45]
    simp (disch := omega) only [q_92_0, q_92_1, q_92_4, q_92_5, q_92_7, q_92_10, q_92_11, q_92_14, q_92_15, q_92_16, q_92_19, q_92_20, q_92_20o, q_92_22, q_92_22o, q_92_24o, q_92_24, q_92_27, q_92_28, q_92_31, q_92_32, q_92_34, q_92_37, q_92_38, q_92_39, q_92_40, q_92_42, q_92_43, q_92_47, q_92_47o, q_92_49, q_92_52, q_92_55, q_92_55o, q_92_57, q_92_59, q_92_62, q_92_64, q_92_66, q_92_68, q_92_71, q_92_72, q_92_74, q_92_77, q_92_77o, q_92_79, q_92_81, q_92_82, q_92_85, q_92_88, q_92_91, q_92_92, q_92_95, q_92_96, q_92_97, q_92_99, q_92_101, q_92_104, q_92_105, q_92_105o, q_92_107, q_92_109, q_92_110, q_92_112, q_92_112o, q_92_115, q_92_117, q_92_120, q_92_120o, q_92_122, q_92_124, q_92_125, q_92_128, q_92_130, q_92_131, q_92_133, q_92_134, q_92_135, q_92_136, q_92_139, q_92_142, q_92_143, q_92_146, q_92_147, q_92_148, q_92_149, q_92_150, q_92_152, q_92_155, q_92_156, q_92_157, q_92_159, q_92_160, q_92_162, q_92_165, q_92_167, q_92_169, q_92_172, q_92_173, q_92_176, q_92_177, q_92_178, q_92_179, q_92_180, q_92_182, q_92_185, q_92_186, q_92_187, q_92_190, q_92_191, q_92_192, q_92_194, q_92_197, q_92_198, q_92_200, q_92_203, q_92_206, q_92_207, q_92_e, va_rf_s, bz_0, bz_1, bz_ok, bb_ok, Nat.add_assoc, w_lt, w_add, w_sub, w_mul, w_div, em_def, w_eq, w_inT, ↓ilt_t, ↓ilt_f, ↓ieq_t, ↓ieq_f, ntT, w_b, w_ix, kx_v, kx_n, kl_n, kl_i, kl_r, kl_o, inA_i, inA_s, inA_b, inA_z, inA_l, inA_0, inA_4, inA_5, inA_6, inA_7, inA_8, inA_9, inA_10, al_0, al_1, al_2, al_4, al_5, al_98, bsP_2, bsP_3, wr_same, wr_wr, wr_ne, up_same, up_ne, Nat.reduceAdd, Int.reduceAdd, Int.reduceSub, Int.reduceMul, Int.reduceLT, Int.reduceLE, Int.reduceEq, Int.reduceNeg, Int.reduceToNat, Nat.reduceLT, Nat.reduceLeDiff, Nat.reduceEqDiff, ↓reduceIte, true_and, and_true, not_true_eq_false, not_false_eq_true, eq_self, or_true, true_or, or_false, false_or, if_true, if_false, Int.toNat_natCast, w_ite, Nat.add_zero, reduceCtorEq, ne_eq, hρ1.1, sp_55 hρ1]
    rw [List.drop_eq_nil_of_le (by omega)] at hQ
    refine hQ _ _ hp hop1 (fun _ h => h) ⟨rfl, rfl, hl, hT, fun a0 => ⟨h, ?_, hh⟩⟩ (fun k3 k2 _ _ => by dsimp only; rw [sayIs, sayIs]) (fun k2 _ _ _ a0 => by rw [evIs, evIs])
    rw [Int.sub_self, Int.add_zero]
    rfl
  | succ j ih =>
    intro i t g h I1 v7 v8 v9 v10 Q hi hp hop1 hl ht hT hh h31 a1 a2 hQ
    have hρ1 : RuleAt S I1 L r ρ := hρA.congr (hp.1 _ (by omega)) (hp.1 _ (by omega)) (hp.1 _ (by omega))
    have hil' : i < ρ.2.2.2.2.length := by omega
    have hok := itOk_get hρ1.2.2.2.2.2.2.2.2.2 hil'
    have hmem : ρ.2.2.2.2.getD i d0 ∈ ρ.2.2.2.2 := by
      rw [List.getD_eq_getElem?_getD, List.getElem?_eq_getElem hil']; exact List.getElem_mem _
    have hkr : 0 ≤ (ρ.2.2.2.2.getD i d0).1 ∧ (ρ.2.2.2.2.getD i d0).1 ≤ 6 := by
      rcases kind_cases hok with c | c | c <;> omega
    rw [items_drop hil'] at hQ
    rw [q_92_45]
    simp (disch := omega) only [q_92_0, q_92_1, q_92_4, q_92_5, q_92_7, q_92_10, q_92_11, q_92_14, q_92_15, q_92_16, q_92_19, q_92_20, q_92_20o, q_92_22, q_92_22o, q_92_24o, q_92_24, q_92_27, q_92_28, q_92_31, q_92_32, q_92_34, q_92_37, q_92_38, q_92_39, q_92_40, q_92_42, q_92_43, q_92_47, q_92_47o, q_92_49, q_92_52, q_92_55, q_92_55o, q_92_57, q_92_59, q_92_62, q_92_64, q_92_66, q_92_68, q_92_71, q_92_72, q_92_74, q_92_79, q_92_81, q_92_82, q_92_85, q_92_88, q_92_91, q_92_92, q_92_95, q_92_96, q_92_97, q_92_99, q_92_101, q_92_104, q_92_105, q_92_105o, q_92_107, q_92_109, q_92_110, q_92_112, q_92_112o, q_92_115, q_92_117, q_92_120, q_92_120o, q_92_122, q_92_124, q_92_125, q_92_128, q_92_130, q_92_131, q_92_133, q_92_134, q_92_135, q_92_136, q_92_139, q_92_142, q_92_143, q_92_146, q_92_147, q_92_148, q_92_149, q_92_150, q_92_152, q_92_155, q_92_156, q_92_157, q_92_159, q_92_160, q_92_162, q_92_165, q_92_167, q_92_169, q_92_172, q_92_173, q_92_176, q_92_177, q_92_178, q_92_179, q_92_180, q_92_182, q_92_185, q_92_186, q_92_187, q_92_190, q_92_191, q_92_192, q_92_194, q_92_197, q_92_198, q_92_200, q_92_203, q_92_206, q_92_207, q_92_e, va_rf_s, bz_0, bz_1, bz_ok, bb_ok, Nat.add_assoc, w_lt, w_add, w_sub, w_mul, w_div, em_def, w_eq, w_inT, ↓ilt_t, ↓ilt_f, ↓ieq_t, ↓ieq_f, ntT, w_b, w_ix, kx_v, kx_n, kl_n, kl_i, kl_r, kl_o, inA_i, inA_s, inA_b, inA_z, inA_l, inA_0, inA_4, inA_5, inA_6, inA_7, inA_8, inA_9, inA_10, al_0, al_1, al_2, al_4, al_5, al_98, bsP_2, bsP_3, wr_same, wr_wr, wr_ne, up_same, up_ne, Nat.reduceAdd, Int.reduceAdd, Int.reduceSub, Int.reduceMul, Int.reduceLT, Int.reduceLE, Int.reduceEq, Int.reduceNeg, Int.reduceToNat, Nat.reduceLT, Nat.reduceLeDiff, Nat.reduceEqDiff, ↓reduceIte, true_and, and_true, not_true_eq_false, not_false_eq_true, eq_self, or_true, true_or, or_false, false_or, if_true, if_false, Int.toNat_natCast, w_ite, Nat.add_zero, reduceCtorEq, ne_eq, hρ1.1, sp_55 hρ1, sp_57 hρ1 hil']
    by_cases k6 : (ρ.2.2.2.2.getD i d0).1 = 6
    · -- glue
      rw [if_pos k6, ← bz_t]
      have := ih (i + 1) t true h I1 (some (.int (w (ρ.2.2.2.2.getD i d0).1))) v8 v9 v10 Q (by omega) hp hop1 hl ht hT hh h31 a1 a2 (fun o I' h1 h2 hbt h3 h4 hue => by
        refine hQ o I' h1 h2 hbt ?_ ?_ (fun k2 hk2 hu2 hy a0 => by rw [sayIs_6 k6] at hy; rw [evIs_6 k6, evIs_6 k6]; exact hue k2 hk2 hu2 hy a0)
        · rw [sayIs_6 k6]
          exact h3.mono (fun t' h => h.step (fun a0 => by rw [evIs_6 k6, Int.sub_self, Int.add_zero]))
        · intro k3 k2 hk2 hu2
          have := h4 k3 k2 hk2 hu2
          dsimp only at this ⊢
          rw [sayIs_6 k6, sayIs_6 k6]
          exact this)
      simp only [Int.natCast_add, Int.natCast_one] at this
      exact this
    · rw [if_neg k6]
      have a60 := fun {d : Nat} {Q : XO → Hp → Prop} => sp_60 (d := d) (Q := Q) (G := G) (R := R) hρ1 hil' n1 n2
      simp (disch := omega) only [q_92_0, q_92_1, q_92_4, q_92_5, q_92_7, q_92_10, q_92_11, q_92_14, q_92_15, q_92_16, q_92_19, q_92_20, q_92_20o, q_92_22, q_92_22o, q_92_24o, q_92_24, q_92_27, q_92_28, q_92_31, q_92_32, q_92_34, q_92_37, q_92_38, q_92_39, q_92_40, q_92_42, q_92_43, q_92_47, q_92_47o, q_92_49, q_92_52, q_92_55, q_92_55o, q_92_57, q_92_59, q_92_62, q_92_64, q_92_66, q_92_68, q_92_71, q_92_72, q_92_74, q_92_77, q_92_77o, q_92_79, q_92_81, q_92_82, q_92_88, q_92_91, q_92_92, q_92_95, q_92_96, q_92_97, q_92_101, q_92_104, q_92_105, q_92_105o, q_92_107, q_92_109, q_92_110, q_92_112, q_92_112o, q_92_115, q_92_117, q_92_120, q_92_120o, q_92_122, q_92_124, q_92_125, q_92_128, q_92_130, q_92_131, q_92_133, q_92_134, q_92_135, q_92_136, q_92_139, q_92_142, q_92_143, q_92_146, q_92_147, q_92_148, q_92_149, q_92_150, q_92_152, q_92_155, q_92_156, q_92_157, q_92_159, q_92_160, q_92_162, q_92_165, q_92_167, q_92_169, q_92_172, q_92_173, q_92_176, q_92_177, q_92_178, q_92_179, q_92_180, q_92_182, q_92_185, q_92_186, q_92_187, q_92_190, q_92_191, q_92_192, q_92_194, q_92_197, q_92_198, q_92_200, q_92_203, q_92_206, q_92_207, q_92_e, q_92_85, va_rf_s, bz_0, bz_1, bz_ok, bb_ok, Nat.add_assoc, w_lt, w_add, w_sub, w_mul, w_div, em_def, w_eq, w_inT, ↓ilt_t, ↓ilt_f, ↓ieq_t, ↓ieq_f, ntT, w_b, w_ix, kx_v, kx_n, kl_n, kl_i, kl_r, kl_o, inA_i, inA_s, inA_b, inA_z, inA_l, inA_0, inA_4, inA_5, inA_6, inA_7, inA_8, inA_9, inA_10, al_0, al_1, al_2, al_4, al_5, al_98, bsP_2, bsP_3, wr_same, wr_wr, wr_ne, up_same, up_ne, Nat.reduceAdd, Int.reduceAdd, Int.reduceSub, Int.reduceMul, Int.reduceLT, Int.reduceLE, Int.reduceEq, Int.reduceNeg, Int.reduceToNat, Nat.reduceLT, Nat.reduceLeDiff, Nat.reduceEqDiff, ↓reduceIte, true_and, and_true, not_true_eq_false, not_false_eq_true, eq_self, or_true, true_or, or_false, false_or, if_true, if_false, Int.toNat_natCast, w_ite, Nat.add_zero, reduceCtorEq, ne_eq, hρ1.1, a60]
      rcases kind_cases hok with c | k0 | kc
      · exact absurd c k6
      · -- a word
        rw [if_pos (by rw [decide_eq_false (by omega)]; rfl)]
        simp (disch := omega) only [q_92_0, q_92_1, q_92_4, q_92_5, q_92_7, q_92_10, q_92_11, q_92_14, q_92_15, q_92_16, q_92_19, q_92_20, q_92_20o, q_92_22, q_92_22o, q_92_24o, q_92_24, q_92_27, q_92_28, q_92_31, q_92_32, q_92_34, q_92_37, q_92_38, q_92_39, q_92_40, q_92_42, q_92_43, q_92_47, q_92_47o, q_92_49, q_92_52, q_92_55, q_92_55o, q_92_57, q_92_59, q_92_62, q_92_64, q_92_66, q_92_68, q_92_71, q_92_72, q_92_74, q_92_77, q_92_77o, q_92_79, q_92_81, q_92_82, q_92_85, q_92_88, q_92_91, q_92_92, q_92_95, q_92_96, q_92_97, q_92_99, q_92_101, q_92_104, q_92_105, q_92_105o, q_92_107, q_92_109, q_92_110, q_92_112, q_92_112o, q_92_115, q_92_117, q_92_120, q_92_120o, q_92_122, q_92_124, q_92_125, q_92_128, q_92_130, q_92_131, q_92_133, q_92_134, q_92_135, q_92_136, q_92_139, q_92_142, q_92_143, q_92_146, q_92_147, q_92_148, q_92_149, q_92_150, q_92_152, q_92_155, q_92_156, q_92_157, q_92_159, q_92_160, q_92_162, q_92_165, q_92_167, q_92_169, q_92_172, q_92_173, q_92_176, q_92_177, q_92_178, q_92_179, q_92_180, q_92_182, q_92_185, q_92_186, q_92_187, q_92_190, q_92_191, q_92_192, q_92_194, q_92_197, q_92_198, q_92_200, q_92_203, q_92_206, q_92_207, q_92_e, va_rf_s, bz_0, bz_1, bz_ok, bb_ok, Nat.add_assoc, w_lt, w_add, w_sub, w_mul, w_div, em_def, w_eq, w_inT, ↓ilt_t, ↓ilt_f, ↓ieq_t, ↓ieq_f, ntT, w_b, w_ix, kx_v, kx_n, kl_n, kl_i, kl_r, kl_o, inA_i, inA_s, inA_b, inA_z, inA_l, inA_0, inA_4, inA_5, inA_6, inA_7, inA_8, inA_9, inA_10, al_0, al_1, al_2, al_4, al_5, al_98, bsP_2, bsP_3, wr_same, wr_wr, wr_ne, up_same, up_ne, Nat.reduceAdd, Int.reduceAdd, Int.reduceSub, Int.reduceMul, Int.reduceLT, Int.reduceLE, Int.reduceEq, Int.reduceNeg, Int.reduceToNat, Nat.reduceLT, Nat.reduceLeDiff, Nat.reduceEqDiff, ↓reduceIte, true_and, and_true, not_true_eq_false, not_false_eq_true, eq_self, or_true, true_or, or_false, false_or, if_true, if_false, Int.toNat_natCast, w_ite, Nat.add_zero, reduceCtorEq, ne_eq, g0, g6, hl, k0, hρ1.1]
        refine sp_93 hV hρ1 hr2 hil' k0 (by omega) hl ht hT (fun hlen => ?_) (fun hlen I2 hA => ?_)
        · simp (disch := omega) only [q_92_0, q_92_1, q_92_4, q_92_5, q_92_7, q_92_10, q_92_11, q_92_14, q_92_15, q_92_16, q_92_19, q_92_20, q_92_20o, q_92_22, q_92_22o, q_92_24o, q_92_24, q_92_27, q_92_28, q_92_31, q_92_32, q_92_34, q_92_37, q_92_38, q_92_39, q_92_40, q_92_42, q_92_43, q_92_47, q_92_47o, q_92_49, q_92_52, q_92_55, q_92_55o, q_92_57, q_92_59, q_92_62, q_92_64, q_92_66, q_92_68, q_92_71, q_92_72, q_92_74, q_92_77, q_92_77o, q_92_79, q_92_81, q_92_82, q_92_85, q_92_88, q_92_91, q_92_92, q_92_95, q_92_96, q_92_97, q_92_99, q_92_101, q_92_104, q_92_105, q_92_105o, q_92_107, q_92_109, q_92_110, q_92_112, q_92_112o, q_92_115, q_92_117, q_92_120, q_92_120o, q_92_122, q_92_124, q_92_125, q_92_128, q_92_130, q_92_131, q_92_133, q_92_134, q_92_135, q_92_136, q_92_139, q_92_142, q_92_143, q_92_146, q_92_147, q_92_148, q_92_149, q_92_150, q_92_152, q_92_155, q_92_156, q_92_157, q_92_159, q_92_160, q_92_162, q_92_165, q_92_167, q_92_169, q_92_172, q_92_173, q_92_176, q_92_177, q_92_178, q_92_179, q_92_180, q_92_182, q_92_185, q_92_186, q_92_187, q_92_190, q_92_191, q_92_192, q_92_194, q_92_197, q_92_198, q_92_200, q_92_203, q_92_206, q_92_207, q_92_e, va_rf_s, bz_0, bz_1, bz_ok, bb_ok, Nat.add_assoc, w_lt, w_add, w_sub, w_mul, w_div, em_def, w_eq, w_inT, ↓ilt_t, ↓ilt_f, ↓ieq_t, ↓ieq_f, ntT, w_b, w_ix, kx_v, kx_n, kl_n, kl_i, kl_r, kl_o, inA_i, inA_s, inA_b, inA_z, inA_l, inA_0, inA_4, inA_5, inA_6, inA_7, inA_8, inA_9, inA_10, al_0, al_1, al_2, al_4, al_5, al_98, bsP_2, bsP_3, wr_same, wr_wr, wr_ne, up_same, up_ne, Nat.reduceAdd, Int.reduceAdd, Int.reduceSub, Int.reduceMul, Int.reduceLT, Int.reduceLE, Int.reduceEq, Int.reduceNeg, Int.reduceToNat, Nat.reduceLT, Nat.reduceLeDiff, Nat.reduceEqDiff, ↓reduceIte, true_and, and_true, not_true_eq_false, not_false_eq_true, eq_self, or_true, true_or, or_false, false_or, if_true, if_false, Int.toNat_natCast, w_ite, Nat.add_zero, reduceCtorEq, ne_eq, g0, g2.1]
          refine sp_9 g2 (by omega) (by omega) (by omega) (by omega) (by omega) (by omega) (by omega) (by omega) (by omega) (fun I3 f1 f2 f3 f4 => ?_)
          simp (disch := omega) only [q_92_0, q_92_1, q_92_4, q_92_5, q_92_7, q_92_10, q_92_11, q_92_14, q_92_15, q_92_16, q_92_19, q_92_20, q_92_20o, q_92_22, q_92_22o, q_92_24o, q_92_24, q_92_27, q_92_28, q_92_31, q_92_32, q_92_34, q_92_37, q_92_38, q_92_39, q_92_40, q_92_42, q_92_43, q_92_47, q_92_47o, q_92_49, q_92_52, q_92_55, q_92_55o, q_92_57, q_92_59, q_92_62, q_92_64, q_92_66, q_92_68, q_92_71, q_92_72, q_92_74, q_92_77, q_92_77o, q_92_79, q_92_81, q_92_82, q_92_85, q_92_88, q_92_91, q_92_92, q_92_95, q_92_96, q_92_97, q_92_99, q_92_101, q_92_104, q_92_105, q_92_105o, q_92_107, q_92_109, q_92_110, q_92_112, q_92_112o, q_92_115, q_92_117, q_92_120, q_92_120o, q_92_122, q_92_124, q_92_125, q_92_128, q_92_130, q_92_131, q_92_133, q_92_134, q_92_135, q_92_136, q_92_139, q_92_142, q_92_143, q_92_146, q_92_147, q_92_148, q_92_149, q_92_150, q_92_152, q_92_155, q_92_156, q_92_157, q_92_159, q_92_160, q_92_162, q_92_165, q_92_167, q_92_169, q_92_172, q_92_173, q_92_176, q_92_177, q_92_178, q_92_179, q_92_180, q_92_182, q_92_185, q_92_186, q_92_187, q_92_190, q_92_191, q_92_192, q_92_194, q_92_197, q_92_198, q_92_200, q_92_203, q_92_206, q_92_207, q_92_e, va_rf_s, bz_0, bz_1, bz_ok, bb_ok, Nat.add_assoc, w_lt, w_add, w_sub, w_mul, w_div, em_def, w_eq, w_inT, ↓ilt_t, ↓ilt_f, ↓ieq_t, ↓ieq_f, ntT, w_b, w_ix, kx_v, kx_n, kl_n, kl_i, kl_r, kl_o, inA_i, inA_s, inA_b, inA_z, inA_l, inA_0, inA_4, inA_5, inA_6, inA_7, inA_8, inA_9, inA_10, al_0, al_1, al_2, al_4, al_5, al_98, bsP_2, bsP_3, wr_same, wr_wr, wr_ne, up_same, up_ne, Nat.reduceAdd, Int.reduceAdd, Int.reduceSub, Int.reduceMul, Int.reduceLT, Int.reduceLE, Int.reduceEq, Int.reduceNeg, Int.reduceToNat, Nat.reduceLT, Nat.reduceLeDiff, Nat.reduceEqDiff, ↓reduceIte, true_and, and_true, not_true_eq_false, not_false_eq_true, eq_self, or_true, true_or, or_false, false_or, if_true, if_false, Int.toNat_natCast, w_ite, Nat.add_zero, reduceCtorEq, ne_eq]
          refine hQ _ I3 (hp.tail (fun a ha => f1 a (by omega))) (by rw [f1 _ (by omega)]; exact hop1) (fun k h => by unfold ubit at h ⊢; rw [f1 v (by omega)]; exact h) ?_ ?_ (fun k2 _ _ hy _ => by rw [sayIs_wl k0 hlen] at hy; obtain ⟨y, hy⟩ := hy; cases hy)
          · rw [sayIs_wl k0 hlen]
            refine ⟨rfl, fun _ => ⟨by rw [f4]; rfl, fun i' hi' => ?_⟩⟩
            have : i' = 0 := by simpa using hi'
            subst this
            exact f3
          · intro k3 k2 hk2 hu2
            dsimp only
            rw [sayIs_wl k0 hlen, sayIs_wl k0 hlen]
            rfl
        · obtain ⟨b1, b2, b3, b4, b5⟩ := hA
          have hw1 : 1 ≤ (ρ.2.2.2.2.getD i d0).2.2.length := by
            rcases hok with ⟨e1, e2, -⟩ | ⟨e1, -⟩ | ⟨e1, -⟩ <;> omega
          have hcl := cat_len (t := t) (q := (ρ.2.2.2.2.getD i d0).2.2) (g := g)
          have hp2 : vpost rs I I2 v dep := hp.add (fun a ha hb _ => b1 a ha hb) (fun i hi => ⟨b2 i hi, by rw [b1 _ (by omega) (by omega)]⟩) b3
          simp (disch := omega) only [q_92_0, q_92_1, q_92_4, q_92_5, q_92_7, q_92_10, q_92_11, q_92_14, q_92_15, q_92_16, q_92_19, q_92_20, q_92_20o, q_92_22, q_92_22o, q_92_24o, q_92_24, q_92_27, q_92_28, q_92_31, q_92_32, q_92_34, q_92_37, q_92_38, q_92_39, q_92_40, q_92_42, q_92_43, q_92_47, q_92_47o, q_92_49, q_92_52, q_92_55, q_92_55o, q_92_57, q_92_59, q_92_62, q_92_64, q_92_66, q_92_68, q_92_71, q_92_72, q_92_74, q_92_77, q_92_77o, q_92_79, q_92_81, q_92_82, q_92_85, q_92_88, q_92_91, q_92_92, q_92_95, q_92_96, q_92_97, q_92_99, q_92_101, q_92_104, q_92_105, q_92_105o, q_92_107, q_92_109, q_92_110, q_92_112, q_92_112o, q_92_115, q_92_117, q_92_120, q_92_120o, q_92_122, q_92_124, q_92_125, q_92_128, q_92_130, q_92_131, q_92_133, q_92_134, q_92_135, q_92_136, q_92_139, q_92_142, q_92_143, q_92_146, q_92_147, q_92_148, q_92_149, q_92_150, q_92_152, q_92_155, q_92_156, q_92_157, q_92_159, q_92_160, q_92_162, q_92_165, q_92_167, q_92_169, q_92_172, q_92_173, q_92_176, q_92_177, q_92_178, q_92_179, q_92_180, q_92_182, q_92_185, q_92_186, q_92_187, q_92_190, q_92_191, q_92_192, q_92_194, q_92_197, q_92_198, q_92_200, q_92_203, q_92_206, q_92_207, q_92_e, va_rf_s, bz_0, bz_1, bz_ok, bb_ok, Nat.add_assoc, w_lt, w_add, w_sub, w_mul, w_div, em_def, w_eq, w_inT, ↓ilt_t, ↓ilt_f, ↓ieq_t, ↓ieq_f, ntT, w_b, w_ix, kx_v, kx_n, kl_n, kl_i, kl_r, kl_o, inA_i, inA_s, inA_b, inA_z, inA_l, inA_0, inA_4, inA_5, inA_6, inA_7, inA_8, inA_9, inA_10, al_0, al_1, al_2, al_4, al_5, al_98, bsP_2, bsP_3, wr_same, wr_wr, wr_ne, up_same, up_ne, Nat.reduceAdd, Int.reduceAdd, Int.reduceSub, Int.reduceMul, Int.reduceLT, Int.reduceLE, Int.reduceEq, Int.reduceNeg, Int.reduceToNat, Nat.reduceLT, Nat.reduceLeDiff, Nat.reduceEqDiff, ↓reduceIte, true_and, and_true, not_true_eq_false, not_false_eq_true, eq_self, or_true, true_or, or_false, false_or, if_true, if_false, Int.toNat_natCast, w_ite, Nat.add_zero, reduceCtorEq, ne_eq, g0, g6, b4]
          rw [← bz_f]
          have e9 : gi I2 v 9 = gi I1 v 9 := gi_congr (b1 v (by omega) (by omega)) 9
          have := ih (i + 1) (cat t g (ρ.2.2.2.2.getD i d0).2.2) false h I2 (some (.int (w 0))) (some (.int (w t.length))) (some (.int (w 1))) v10 Q (by omega) hp2 (by rw [b1 _ (by omega) (by omega)]; exact hop1) b4 (by omega) b5 (by rw [b1 _ (by omega) (by omega)]; exact hh) h31 (by omega) (by omega) (fun o I' h1 h2 hbt h3 h4 hue => by
            rw [e9] at h3 h4 hue
            refine hQ o I' h1 h2 (fun k h => hbt k (by unfold ubit at h ⊢; rw [b1 v (by omega) (by omega)]; exact h)) ?_ ?_ (fun k2 hk2 hu2 hy a0 => by rw [sayIs_w k0 hlen] at hy; rw [evIs_w k0 hlen, evIs_w k0 hlen]; exact hue k2 hk2 hu2 hy a0)
            · rw [sayIs_w k0 hlen]
              exact h3.mono (fun t' h => h.step (fun a0 => by rw [evIs_w k0 hlen, Int.sub_self, Int.add_zero]))
            · intro k3 k2 hk2 hu2
              have := h4 k3 k2 hk2 hu2
              dsimp only at this ⊢
              rw [sayIs_w k0 hlen, sayIs_w k0 hlen]
              exact this)
          simp only [Int.natCast_add, Int.natCast_one] at this
          exact this
      · -- something asked for
        have k0 : ¬ (ρ.2.2.2.2.getD i d0).1 = 0 := by omega
        cases hw : want (ρ.2.2.2.2.getD i d0).1 (ρ.2.2.2.2.getD i d0).2.1 n with
        | none =>
          have hc := (want_none ⟨kc.1, kc.2.1⟩).mp hw
          rw [if_neg (by rw [decide_eq_true hc.1, decide_eq_true hc.2]; decide)]
          have := ih (i + 1) t g h I1 (some (.int (w (ρ.2.2.2.2.getD i d0).1))) v8 v9 v10 Q (by omega) hp hop1 hl ht hT hh h31 a1 a2 (fun o I' h1 h2 hbt h3 h4 hue => by
            refine hQ o I' h1 h2 hbt ?_ ?_ (fun k2 hk2 hu2 hy a0 => by rw [sayIs_n k6 k0 hw] at hy; rw [evIs_n k6 k0 hw, evIs_n k6 k0 hw]; exact hue k2 hk2 hu2 hy a0)
            · rw [sayIs_n k6 k0 hw]
              exact h3.mono (fun t' h => h.step (fun a0 => by rw [evIs_n k6 k0 hw, Int.sub_self, Int.add_zero]))
            · intro k3 k2 hk2 hu2
              have := h4 k3 k2 hk2 hu2
              dsimp only at this ⊢
              rw [sayIs_n k6 k0 hw, sayIs_n k6 k0 hw]
              exact this)
          simp only [Int.natCast_add, Int.natCast_one] at this
          exact this
        | some q =>
          have hask : asks (ρ.2.2.2.2.getD i d0) n q := ⟨k6, k0, hw⟩
          have hqb := want_bd kc n1 n2 hw
          have hnn : ¬ ((ρ.2.2.2.2.getD i d0).1 = 2 ∧ n % (ρ.2.2.2.2.getD i d0).2.1 = 0) := fun e => by
            rw [(want_none ⟨kc.1, kc.2.1⟩).mpr e] at hw; cases hw
          rw [if_pos (by
            by_cases e2 : (ρ.2.2.2.2.getD i d0).1 = 2
            · rw [decide_eq_false (p := n % _ = 0) (fun e => hnn ⟨e2, e⟩), Bool.and_false]
            · rw [decide_eq_false e2]; rfl)]
          have a61 := fun {d : Nat} {Q : XO → Hp → Prop} => sp_61 (d := d) (Q := Q) (G := G) (R := R) hρ1 hil' n1 n2 hask
          simp (disch := omega) only [q_92_0, q_92_1, q_92_4, q_92_5, q_92_7, q_92_10, q_92_11, q_92_14, q_92_15, q_92_16, q_92_19, q_92_20, q_92_20o, q_92_22, q_92_22o, q_92_24o, q_92_24, q_92_27, q_92_28, q_92_31, q_92_32, q_92_34, q_92_37, q_92_38, q_92_39, q_92_40, q_92_42, q_92_43, q_92_47, q_92_47o, q_92_49, q_92_52, q_92_55, q_92_55o, q_92_57, q_92_59, q_92_62, q_92_64, q_92_66, q_92_68, q_92_71, q_92_72, q_92_74, q_92_77, q_92_77o, q_92_79, q_92_81, q_92_82, q_92_85, q_92_88, q_92_91, q_92_92, q_92_95, q_92_96, q_92_97, q_92_99, q_92_101, q_92_104, q_92_105, q_92_105o, q_92_107, q_92_109, q_92_110, q_92_112, q_92_112o, q_92_115, q_92_117, q_92_120, q_92_120o, q_92_122, q_92_124, q_92_125, q_92_128, q_92_130, q_92_131, q_92_133, q_92_134, q_92_135, q_92_136, q_92_139, q_92_142, q_92_143, q_92_146, q_92_147, q_92_148, q_92_149, q_92_150, q_92_152, q_92_155, q_92_156, q_92_157, q_92_159, q_92_160, q_92_162, q_92_165, q_92_167, q_92_169, q_92_172, q_92_173, q_92_176, q_92_177, q_92_178, q_92_179, q_92_180, q_92_182, q_92_185, q_92_186, q_92_187, q_92_190, q_92_191, q_92_192, q_92_194, q_92_197, q_92_198, q_92_200, q_92_203, q_92_206, q_92_207, q_92_e, va_rf_s, bz_0, bz_1, bz_ok, bb_ok, Nat.add_assoc, w_lt, w_add, w_sub, w_mul, w_div, em_def, w_eq, w_inT, ↓ilt_t, ↓ilt_f, ↓ieq_t, ↓ieq_f, ntT, w_b, w_ix, kx_v, kx_n, kl_n, kl_i, kl_r, kl_o, inA_i, inA_s, inA_b, inA_z, inA_l, inA_0, inA_4, inA_5, inA_6, inA_7, inA_8, inA_9, inA_10, al_0, al_1, al_2, al_4, al_5, al_98, bsP_2, bsP_3, wr_same, wr_wr, wr_ne, up_same, up_ne, Nat.reduceAdd, Int.reduceAdd, Int.reduceSub, Int.reduceMul, Int.reduceLT, Int.reduceLE, Int.reduceEq, Int.reduceNeg, Int.reduceToNat, Nat.reduceLT, Nat.reduceLeDiff, Nat.reduceEqDiff, ↓reduceIte, true_and, and_true, not_true_eq_false, not_false_eq_true, eq_self, or_true, true_or, or_false, false_or, if_true, if_false, Int.toNat_natCast, w_ite, Nat.add_zero, reduceCtorEq, ne_eq, g0, g6, hl, hρ1.1, a61]
          have hop2 : opl I1 v (dep + 1) = n :: opl I v dep := by
            rw [opl_succ, opl_congr (fun i hi => (hp.2.2.2.2.2.1 i hi).1), gi_eq hop1 (by omega) (by omega)]
          have hbits : ∀ k2, ubit I1 v k2 = false → ubit I v k2 = false := fun k2 h => by
            cases e : ubit I v k2 with
            | false => rfl
            | true => rw [hp.2.2.2.2.2.2.2.2 k2 e] at h; cases h
          have hsp := IH e I1 (dep + 1) q (XK (e + 6 + 1) 92 136 [some (.ref v), some (.int (w n)), some (.int (w k)), some (.int (w dep)), some (.ref r), some (.int (bz g)), some (.int (w i)), some (.int (w (ρ.2.2.2.2.getD i d0).1)), some (.int (w t.length)), kl v9, some (.int (w q))] [] Q) he hfd (hR.congr hp.1 hp.2.1) hp.2.2.2.1 hp.2.2.2.2.1 (by rw [hp.2.2.1]; exact hwc) a1 a2 (fun h => by omega) (by omega) (by omega)
            (by rw [hop2]; exact chn_ask hch hk hrk hmem hask)
            (fun k2 hk2 hu2 => by
              rw [hop2]
              have hne : k2 ≠ k := fun e => by rw [e, hp.2.2.2.2.2.2.2.2 k hu] at hu2; cases hu2
              obtain ⟨jj, j1, j2⟩ := fi_erase rs k2 k hk hne
              exact chn_ask (hchU k2 hk2 (hbits k2 hu2)) j1 (j2.trans hrk) hmem hask)
          rw [hop2, if_neg (by omega : ¬ dep + 1 = 0)] at hsp
          refine hsp (fun o I2 hp2 hb hag => ?_)
          have hp12 := hp.trans hp2 (by omega)
          have hop3 : I2 (v + 13) dep = w n := (hp2.2.2.2.2.2.1 dep (by omega)).1.trans hop1
          cases hS : say rs f (n :: opl I v dep) (gi I1 v 9 + 1) q with
          | inr l =>
            rw [hS] at hb hag
            obtain ⟨rfl, hb⟩ := hb
            simp (disch := omega) only [q_92_0, q_92_1, q_92_4, q_92_5, q_92_7, q_92_10, q_92_11, q_92_14, q_92_15, q_92_16, q_92_19, q_92_20, q_92_20o, q_92_22, q_92_22o, q_92_24o, q_92_24, q_92_27, q_92_28, q_92_31, q_92_32, q_92_34, q_92_37, q_92_38, q_92_39, q_92_40, q_92_42, q_92_43, q_92_47, q_92_47o, q_92_49, q_92_52, q_92_55, q_92_55o, q_92_57, q_92_59, q_92_62, q_92_64, q_92_66, q_92_68, q_92_71, q_92_72, q_92_74, q_92_77, q_92_77o, q_92_79, q_92_81, q_92_82, q_92_85, q_92_88, q_92_91, q_92_92, q_92_95, q_92_96, q_92_97, q_92_99, q_92_101, q_92_104, q_92_105, q_92_105o, q_92_107, q_92_109, q_92_110, q_92_112, q_92_112o, q_92_115, q_92_117, q_92_120, q_92_120o, q_92_122, q_92_124, q_92_125, q_92_128, q_92_130, q_92_131, q_92_133, q_92_134, q_92_135, q_92_136, q_92_139, q_92_142, q_92_143, q_92_146, q_92_147, q_92_148, q_92_149, q_92_150, q_92_152, q_92_155, q_92_156, q_92_157, q_92_159, q_92_160, q_92_162, q_92_165, q_92_167, q_92_169, q_92_172, q_92_173, q_92_176, q_92_177, q_92_178, q_92_179, q_92_180, q_92_182, q_92_185, q_92_186, q_92_187, q_92_190, q_92_191, q_92_192, q_92_194, q_92_197, q_92_198, q_92_200, q_92_203, q_92_206, q_92_207, q_92_e, va_rf_s, bz_0, bz_1, bz_ok, bb_ok, Nat.add_assoc, w_lt, w_add, w_sub, w_mul, w_div, em_def, w_eq, w_inT, ↓ilt_t, ↓ilt_f, ↓ieq_t, ↓ieq_f, ntT, w_b, w_ix, kx_v, kx_n, kl_n, kl_i, kl_r, kl_o, inA_i, inA_s, inA_b, inA_z, inA_l, inA_0, inA_4, inA_5, inA_6, inA_7, inA_8, inA_9, inA_10, al_0, al_1, al_2, al_4, al_5, al_98, bsP_2, bsP_3, wr_same, wr_wr, wr_ne, up_same, up_ne, Nat.reduceAdd, Int.reduceAdd, Int.reduceSub, Int.reduceMul, Int.reduceLT, Int.reduceLE, Int.reduceEq, Int.reduceNeg, Int.reduceToNat, Nat.reduceLT, Nat.reduceLeDiff, Nat.reduceEqDiff, ↓reduceIte, true_and, and_true, not_true_eq_false, not_false_eq_true, eq_self, or_true, true_or, or_false, false_or, if_true, if_false, Int.toNat_natCast, w_ite, Nat.add_zero, reduceCtorEq, ne_eq, g0, g2.1]
            refine sp_9 g2 (by omega) (by omega) (by omega) (by omega) (by omega) (by omega) (by omega) (by omega) (by omega) (fun I3 f1 f2 f3 f4 => ?_)
            simp (disch := omega) only [q_92_0, q_92_1, q_92_4, q_92_5, q_92_7, q_92_10, q_92_11, q_92_14, q_92_15, q_92_16, q_92_19, q_92_20, q_92_20o, q_92_22, q_92_22o, q_92_24o, q_92_24, q_92_27, q_92_28, q_92_31, q_92_32, q_92_34, q_92_37, q_92_38, q_92_39, q_92_40, q_92_42, q_92_43, q_92_47, q_92_47o, q_92_49, q_92_52, q_92_55, q_92_55o, q_92_57, q_92_59, q_92_62, q_92_64, q_92_66, q_92_68, q_92_71, q_92_72, q_92_74, q_92_77, q_92_77o, q_92_79, q_92_81, q_92_82, q_92_85, q_92_88, q_92_91, q_92_92, q_92_95, q_92_96, q_92_97, q_92_99, q_92_101, q_92_104, q_92_105, q_92_105o, q_92_107, q_92_109, q_92_110, q_92_112, q_92_112o, q_92_115, q_92_117, q_92_120, q_92_120o, q_92_122, q_92_124, q_92_125, q_92_128, q_92_130, q_92_131, q_92_133, q_92_134, q_92_135, q_92_136, q_92_139, q_92_142, q_92_143, q_92_146, q_92_147, q_92_148, q_92_149, q_92_150, q_92_152, q_92_155, q_92_156, q_92_157, q_92_159, q_92_160, q_92_162, q_92_165, q_92_167, q_92_169, q_92_172, q_92_173, q_92_176, q_92_177, q_92_178, q_92_179, q_92_180, q_92_182, q_92_185, q_92_186, q_92_187, q_92_190, q_92_191, q_92_192, q_92_194, q_92_197, q_92_198, q_92_200, q_92_203, q_92_206, q_92_207, q_92_e, va_rf_s, bz_0, bz_1, bz_ok, bb_ok, Nat.add_assoc, w_lt, w_add, w_sub, w_mul, w_div, em_def, w_eq, w_inT, ↓ilt_t, ↓ilt_f, ↓ieq_t, ↓ieq_f, ntT, w_b, w_ix, kx_v, kx_n, kl_n, kl_i, kl_r, kl_o, inA_i, inA_s, inA_b, inA_z, inA_l, inA_0, inA_4, inA_5, inA_6, inA_7, inA_8, inA_9, inA_10, al_0, al_1, al_2, al_4, al_5, al_98, bsP_2, bsP_3, wr_same, wr_wr, wr_ne, up_same, up_ne, Nat.reduceAdd, Int.reduceAdd, Int.reduceSub, Int.reduceMul, Int.reduceLT, Int.reduceLE, Int.reduceEq, Int.reduceNeg, Int.reduceToNat, Nat.reduceLT, Nat.reduceLeDiff, Nat.reduceEqDiff, ↓reduceIte, true_and, and_true, not_true_eq_false, not_false_eq_true, eq_self, or_true, true_or, or_false, false_or, if_true, if_false, Int.toNat_natCast, w_ite, Nat.add_zero, reduceCtorEq, ne_eq]
            refine hQ _ I3 (hp12.tail (fun a ha => f1 a (by omega))) (by rw [f1 _ (by omega)]; exact hop3) (fun k h => by have h := hp2.2.2.2.2.2.2.2.2 k h; unfold ubit at h ⊢; rw [f1 v (by omega)]; exact h) ?_ ?_ (fun k2 _ _ hy _ => by rw [sayIs_f k6 k0 hw hS] at hy; obtain ⟨y, hy⟩ := hy; cases hy)
            · rw [sayIs_f k6 k0 hw hS]
              refine ⟨rfl, fun hc => ?_⟩
              obtain ⟨b1, b2⟩ := hb (by rw [hp.2.2.1]; exact hc)
              refine ⟨by rw [f4, if_pos rfl, b1, List.length_cons]; omega, fun i' hi' => ?_⟩
              match i' with
              | 0 => exact f3
              | i' + 1 =>
                rw [f2 _ (by omega), show dep + (i' + 1) = dep + 1 + i' by omega, b2 i' (by simpa using hi')]
                rfl
            · intro k3 k2 hk2 hu2
              have hu2' : ubit I2 v k2 = false := by
                unfold ubit at hu2 ⊢; rw [← f1 v (by omega)]; exact hu2
              have := hag k2 hk2 hu2'
              dsimp only at this ⊢
              rw [sayIs_f k6 k0 hw hS]
              cases hS' : say (rs.eraseIdx k2) f (n :: opl I v dep) (gi I1 v 9 + 1) q with
              | inr l' => rw [sayIs_f k6 k0 hw hS']; rfl
              | inl y => rw [hS'] at this; cases this
          | inl y =>
            obtain ⟨p, b⟩ := y
            rw [hS] at hb hag
            obtain ⟨rfl, hb9, q1, q2, hb3, hb4⟩ := hb
            obtain ⟨h', hev, hab, hb1000⟩ := say_ev _ _ _ _ _ _ hS
            have hev30 := ev_at _ _ _ hev 30 (by have := (ev_pos _ _ _ hev).2.2; dsimp only at this ⊢; omega)
            have hpos := ev_pos _ _ _ hev
            have hpl := ev_len hev
            dsimp only at hpos hpl
            have hm := hp2.2.2.2.1 (sl q) (sl_bd q)
            unfold mOk at hm
            rw [hb3] at hm
            obtain ⟨m1, m2, m3⟩ : I2 (v + 4) (sl q) = w p.length ∧ I2 (v + 6) (sl q) = w h' ∧ Txt (I2 (v + 2)) (sl q * 100) p := by
              rcases hm with hm | ⟨-, -, -, hm | ⟨x, x1, -, x2, -, x3, x4⟩⟩
              · omega
              · exact absurd hm.1 hb4
              · have := ev_det x1 hev
                subst this
                exact ⟨x2, x3, x4⟩
            have hl2 : I2 (v + 15) dep = w t.length := (hp2.2.2.2.2.2.1 dep (by omega)).2.1.trans hl
            have hh2 : I2 (v + 16) dep = w h := (hp2.2.2.2.2.2.1 dep (by omega)).2.2.trans hh
            have hT2 : Txt (I2 (v + 14)) (dep * 100) t := Txt_congr hT (fun j _ hj => hp2.2.2.2.2.2.2.1 j (by omega))
            simp (disch := omega) only [q_92_0, q_92_1, q_92_4, q_92_5, q_92_7, q_92_10, q_92_11, q_92_14, q_92_15, q_92_16, q_92_19, q_92_20, q_92_20o, q_92_22, q_92_22o, q_92_24o, q_92_24, q_92_27, q_92_28, q_92_31, q_92_32, q_92_34, q_92_37, q_92_38, q_92_39, q_92_40, q_92_42, q_92_43, q_92_47, q_92_47o, q_92_49, q_92_52, q_92_55, q_92_55o, q_92_57, q_92_59, q_92_62, q_92_64, q_92_66, q_92_68, q_92_71, q_92_72, q_92_74, q_92_77, q_92_77o, q_92_79, q_92_81, q_92_82, q_92_85, q_92_88, q_92_91, q_92_92, q_92_95, q_92_96, q_92_97, q_92_99, q_92_101, q_92_104, q_92_105, q_92_105o, q_92_107, q_92_109, q_92_110, q_92_112, q_92_112o, q_92_115, q_92_117, q_92_120, q_92_120o, q_92_122, q_92_124, q_92_125, q_92_128, q_92_130, q_92_131, q_92_133, q_92_134, q_92_135, q_92_136, q_92_139, q_92_142, q_92_143, q_92_146, q_92_147, q_92_148, q_92_149, q_92_150, q_92_152, q_92_155, q_92_156, q_92_157, q_92_159, q_92_160, q_92_162, q_92_165, q_92_167, q_92_169, q_92_172, q_92_173, q_92_176, q_92_177, q_92_178, q_92_179, q_92_180, q_92_182, q_92_185, q_92_186, q_92_187, q_92_190, q_92_191, q_92_192, q_92_194, q_92_197, q_92_198, q_92_200, q_92_203, q_92_206, q_92_207, q_92_e, va_rf_s, bz_0, bz_1, bz_ok, bb_ok, Nat.add_assoc, w_lt, w_add, w_sub, w_mul, w_div, em_def, w_eq, w_inT, ↓ilt_t, ↓ilt_f, ↓ieq_t, ↓ieq_f, ntT, w_b, w_ix, kx_v, kx_n, kl_n, kl_i, kl_r, kl_o, inA_i, inA_s, inA_b, inA_z, inA_l, inA_0, inA_4, inA_5, inA_6, inA_7, inA_8, inA_9, inA_10, al_0, al_1, al_2, al_4, al_5, al_98, bsP_2, bsP_3, wr_same, wr_wr, wr_ne, up_same, up_ne, Nat.reduceAdd, Int.reduceAdd, Int.reduceSub, Int.reduceMul, Int.reduceLT, Int.reduceLE, Int.reduceEq, Int.reduceNeg, Int.reduceToNat, Nat.reduceLT, Nat.reduceLeDiff, Nat.reduceEqDiff, ↓reduceIte, true_and, and_true, not_true_eq_false, not_false_eq_true, eq_self, or_true, true_or, or_false, false_or, if_true, if_false, Int.toNat_natCast, w_ite, Nat.add_zero, reduceCtorEq, ne_eq, g0]
            refine sp_94 hV q1 (by omega) (by omega) hl2 ht hT2 hh2 h31 m1 hpl m2 (by omega) m3 (fun hp0 hlen I3 f1 f2 => ?_) (fun hp0 I3 hA => ?_) (fun hp0 hlen I3 hA => ?_)
            · have hp3 := hp12.add (fun a _ _ hc => f1 a hc) (fun i hi => ⟨by rw [f1 _ (by omega)], f2 i hi⟩) (fun j _ => by rw [f1 _ (by omega)])
              simp (disch := omega) only [q_92_0, q_92_1, q_92_4, q_92_5, q_92_7, q_92_10, q_92_11, q_92_14, q_92_15, q_92_16, q_92_19, q_92_20, q_92_20o, q_92_22, q_92_22o, q_92_24o, q_92_24, q_92_27, q_92_28, q_92_31, q_92_32, q_92_34, q_92_37, q_92_38, q_92_39, q_92_40, q_92_42, q_92_43, q_92_47, q_92_47o, q_92_49, q_92_52, q_92_55, q_92_55o, q_92_57, q_92_59, q_92_62, q_92_64, q_92_66, q_92_68, q_92_71, q_92_72, q_92_74, q_92_77, q_92_77o, q_92_79, q_92_81, q_92_82, q_92_85, q_92_88, q_92_91, q_92_92, q_92_95, q_92_96, q_92_97, q_92_99, q_92_101, q_92_104, q_92_105, q_92_105o, q_92_107, q_92_109, q_92_110, q_92_112, q_92_112o, q_92_115, q_92_117, q_92_120, q_92_120o, q_92_122, q_92_124, q_92_125, q_92_128, q_92_130, q_92_131, q_92_133, q_92_134, q_92_135, q_92_136, q_92_139, q_92_142, q_92_143, q_92_146, q_92_147, q_92_148, q_92_149, q_92_150, q_92_152, q_92_155, q_92_156, q_92_157, q_92_159, q_92_160, q_92_162, q_92_165, q_92_167, q_92_169, q_92_172, q_92_173, q_92_176, q_92_177, q_92_178, q_92_179, q_92_180, q_92_182, q_92_185, q_92_186, q_92_187, q_92_190, q_92_191, q_92_192, q_92_194, q_92_197, q_92_198, q_92_200, q_92_203, q_92_206, q_92_207, q_92_e, va_rf_s, bz_0, bz_1, bz_ok, bb_ok, Nat.add_assoc, w_lt, w_add, w_sub, w_mul, w_div, em_def, w_eq, w_inT, ↓ilt_t, ↓ilt_f, ↓ieq_t, ↓ieq_f, ntT, w_b, w_ix, kx_v, kx_n, kl_n, kl_i, kl_r, kl_o, inA_i, inA_s, inA_b, inA_z, inA_l, inA_0, inA_4, inA_5, inA_6, inA_7, inA_8, inA_9, inA_10, al_0, al_1, al_2, al_4, al_5, al_98, bsP_2, bsP_3, wr_same, wr_wr, wr_ne, up_same, up_ne, Nat.reduceAdd, Int.reduceAdd, Int.reduceSub, Int.reduceMul, Int.reduceLT, Int.reduceLE, Int.reduceEq, Int.reduceNeg, Int.reduceToNat, Nat.reduceLT, Nat.reduceLeDiff, Nat.reduceEqDiff, ↓reduceIte, true_and, and_true, not_true_eq_false, not_false_eq_true, eq_self, or_true, true_or, or_false, false_or, if_true, if_false, Int.toNat_natCast, w_ite, Nat.add_zero, reduceCtorEq, ne_eq, g0, g2.1]
              refine sp_9 g2 (by omega) (by omega) (by omega) (by omega) (by omega) (by omega) (by omega) (by omega) (by omega) (fun I4 e1 e2 e3 e4 => ?_)
              simp (disch := omega) only [q_92_0, q_92_1, q_92_4, q_92_5, q_92_7, q_92_10, q_92_11, q_92_14, q_92_15, q_92_16, q_92_19, q_92_20, q_92_20o, q_92_22, q_92_22o, q_92_24o, q_92_24, q_92_27, q_92_28, q_92_31, q_92_32, q_92_34, q_92_37, q_92_38, q_92_39, q_92_40, q_92_42, q_92_43, q_92_47, q_92_47o, q_92_49, q_92_52, q_92_55, q_92_55o, q_92_57, q_92_59, q_92_62, q_92_64, q_92_66, q_92_68, q_92_71, q_92_72, q_92_74, q_92_77, q_92_77o, q_92_79, q_92_81, q_92_82, q_92_85, q_92_88, q_92_91, q_92_92, q_92_95, q_92_96, q_92_97, q_92_99, q_92_101, q_92_104, q_92_105, q_92_105o, q_92_107, q_92_109, q_92_110, q_92_112, q_92_112o, q_92_115, q_92_117, q_92_120, q_92_120o, q_92_122, q_92_124, q_92_125, q_92_128, q_92_130, q_92_131, q_92_133, q_92_134, q_92_135, q_92_136, q_92_139, q_92_142, q_92_143, q_92_146, q_92_147, q_92_148, q_92_149, q_92_150, q_92_152, q_92_155, q_92_156, q_92_157, q_92_159, q_92_160, q_92_162, q_92_165, q_92_167, q_92_169, q_92_172, q_92_173, q_92_176, q_92_177, q_92_178, q_92_179, q_92_180, q_92_182, q_92_185, q_92_186, q_92_187, q_92_190, q_92_191, q_92_192, q_92_194, q_92_197, q_92_198, q_92_200, q_92_203, q_92_206, q_92_207, q_92_e, va_rf_s, bz_0, bz_1, bz_ok, bb_ok, Nat.add_assoc, w_lt, w_add, w_sub, w_mul, w_div, em_def, w_eq, w_inT, ↓ilt_t, ↓ilt_f, ↓ieq_t, ↓ieq_f, ntT, w_b, w_ix, kx_v, kx_n, kl_n, kl_i, kl_r, kl_o, inA_i, inA_s, inA_b, inA_z, inA_l, inA_0, inA_4, inA_5, inA_6, inA_7, inA_8, inA_9, inA_10, al_0, al_1, al_2, al_4, al_5, al_98, bsP_2, bsP_3, wr_same, wr_wr, wr_ne, up_same, up_ne, Nat.reduceAdd, Int.reduceAdd, Int.reduceSub, Int.reduceMul, Int.reduceLT, Int.reduceLE, Int.reduceEq, Int.reduceNeg, Int.reduceToNat, Nat.reduceLT, Nat.reduceLeDiff, Nat.reduceEqDiff, ↓reduceIte, true_and, and_true, not_true_eq_false, not_false_eq_true, eq_self, or_true, true_or, or_false, false_or, if_true, if_false, Int.toNat_natCast, w_ite, Nat.add_zero, reduceCtorEq, ne_eq]
              refine hQ _ I4 (hp3.tail (fun a ha => e1 a (by omega))) (by rw [e1 _ (by omega), f1 _ (by omega)]; exact hop3) (fun k h => by have h := hp2.2.2.2.2.2.2.2.2 k h; unfold ubit at h ⊢; rw [e1 v (by omega), f1 v (by omega)]; exact h) ?_ ?_ (fun k2 _ _ hy _ => by rw [sayIs_pl k6 k0 hw hS hp0 hlen] at hy; obtain ⟨y, hy⟩ := hy; cases hy)
              · rw [sayIs_pl k6 k0 hw hS hp0 hlen]
                refine ⟨rfl, fun _ => ⟨by rw [e4]; rfl, fun i' hi' => ?_⟩⟩
                have : i' = 0 := by simpa using hi'
                subst this
                exact e3
              · intro k3 k2 hk2 hu2
                have hu2' : ubit I2 v k2 = false := by
                  unfold ubit at hu2 ⊢; rw [← f1 v (by omega), ← e1 v (by omega)]; exact hu2
                have := hag k2 hk2 hu2'
                dsimp only at this ⊢
                rw [sayIs_pl k6 k0 hw hS hp0 hlen]
                cases hS' : say (rs.eraseIdx k2) f (n :: opl I v dep) (gi I1 v 9 + 1) q with
                | inr l' => rw [hS'] at this; cases this
                | inl y => rw [hS'] at this; cases this; rw [sayIs_pl k6 k0 hw hS' hp0 hlen]; rfl
            · subst hp0
              obtain ⟨c1, c2, c3, c4, c5, c6⟩ := hA
              have hp3 := hp12.add c1 c2 c3
              have e9 : gi I3 v 9 = b := by rw [gi_congr (c1 v (by omega) (by omega) (by omega)) 9]; exact hb9
              simp (disch := omega) only [q_92_0, q_92_1, q_92_4, q_92_5, q_92_7, q_92_10, q_92_11, q_92_14, q_92_15, q_92_16, q_92_19, q_92_20, q_92_20o, q_92_22, q_92_22o, q_92_24o, q_92_24, q_92_27, q_92_28, q_92_31, q_92_32, q_92_34, q_92_37, q_92_38, q_92_39, q_92_40, q_92_42, q_92_43, q_92_47, q_92_47o, q_92_49, q_92_52, q_92_55, q_92_55o, q_92_57, q_92_59, q_92_62, q_92_64, q_92_66, q_92_68, q_92_71, q_92_72, q_92_74, q_92_77, q_92_77o, q_92_79, q_92_81, q_92_82, q_92_85, q_92_88, q_92_91, q_92_92, q_92_95, q_92_96, q_92_97, q_92_99, q_92_101, q_92_104, q_92_105, q_92_105o, q_92_107, q_92_109, q_92_110, q_92_112, q_92_112o, q_92_115, q_92_117, q_92_120, q_92_120o, q_92_122, q_92_124, q_92_125, q_92_128, q_92_130, q_92_131, q_92_133, q_92_134, q_92_135, q_92_136, q_92_139, q_92_142, q_92_143, q_92_146, q_92_147, q_92_148, q_92_149, q_92_150, q_92_152, q_92_155, q_92_156, q_92_157, q_92_159, q_92_160, q_92_162, q_92_165, q_92_167, q_92_169, q_92_172, q_92_173, q_92_176, q_92_177, q_92_178, q_92_179, q_92_180, q_92_182, q_92_185, q_92_186, q_92_187, q_92_190, q_92_191, q_92_192, q_92_194, q_92_197, q_92_198, q_92_200, q_92_203, q_92_206, q_92_207, q_92_e, va_rf_s, bz_0, bz_1, bz_ok, bb_ok, Nat.add_assoc, w_lt, w_add, w_sub, w_mul, w_div, em_def, w_eq, w_inT, ↓ilt_t, ↓ilt_f, ↓ieq_t, ↓ieq_f, ntT, w_b, w_ix, kx_v, kx_n, kl_n, kl_i, kl_r, kl_o, inA_i, inA_s, inA_b, inA_z, inA_l, inA_0, inA_4, inA_5, inA_6, inA_7, inA_8, inA_9, inA_10, al_0, al_1, al_2, al_4, al_5, al_98, bsP_2, bsP_3, wr_same, wr_wr, wr_ne, up_same, up_ne, Nat.reduceAdd, Int.reduceAdd, Int.reduceSub, Int.reduceMul, Int.reduceLT, Int.reduceLE, Int.reduceEq, Int.reduceNeg, Int.reduceToNat, Nat.reduceLT, Nat.reduceLeDiff, Nat.reduceEqDiff, ↓reduceIte, true_and, and_true, not_true_eq_false, not_false_eq_true, eq_self, or_true, true_or, or_false, false_or, if_true, if_false, Int.toNat_natCast, w_ite, Nat.add_zero, reduceCtorEq, ne_eq, g0, g6, c4]
              have := ih (i + 1) t g (max h (h' + 1)) I3 (some (.int (w (ρ.2.2.2.2.getD i d0).1))) (some (.int (w t.length))) (some (.int (w 1))) (some (.int (w q))) Q (by omega) hp3 (by rw [c1 _ (by omega) (by omega) (by omega)]; exact hop3) c4 ht c6 c5 (by omega) (by omega) (by omega) (fun o I' h1 h2 hbt h3 h4 hue => by
                rw [e9] at h3 h4 hue
                have hb23 : ∀ k, ubit I2 v k = true → ubit I' v k = true := fun k h => hbt k (by unfold ubit at h ⊢; rw [c1 v (by omega) (by omega) (by omega)]; exact h)
                have hun : ∀ k2, ubit I' v k2 = false → ubit I2 v k2 = false := fun k2 h => by
                  cases e : ubit I2 v k2 with
                  | false => rfl
                  | true => rw [hb23 k2 e] at h; cases h
                refine hQ o I' h1 h2 (fun k h => hb23 k (hp2.2.2.2.2.2.2.2.2 k h)) ?_ ?_ (fun k2 hk2 hu2 hy a0 => by
                  have hq := (hp2.2.2.2.2.1 k2 hk2 (hun k2 hu2) (sl q) (sl_bd q) (by omega)).2 hb4
                  rw [hb3, hev30] at hq
                  rw [sayIs_e k6 k0 hw hS] at hy
                  rw [evIs_e k6 k0 hw hev30, evIs_e k6 k0 hw hq]
                  exact hue k2 hk2 hu2 hy _)
                · rw [sayIs_e k6 k0 hw hS]
                  exact h3.mono (fun t' h => h.step (fun a0 => by rw [evIs_e k6 k0 hw hev30]; congr 1; omega))
                · intro k3 k2 hk2 hu2
                  have h5 := h4 k3 k2 hk2 hu2
                  have hu2' : ubit I2 v k2 = false := by
                    cases e : ubit I2 v k2 with
                    | false => rfl
                    | true => rw [hb23 k2 e] at hu2; cases hu2
                  have := hag k2 hk2 hu2'
                  dsimp only at this h5 ⊢
                  rw [sayIs_e k6 k0 hw hS]
                  cases hS' : say (rs.eraseIdx k2) f (n :: opl I v dep) (gi I1 v 9 + 1) q with
                  | inr l' => rw [hS'] at this; cases this
                  | inl y => rw [hS'] at this; cases this; rw [sayIs_e k6 k0 hw hS']; exact h5)
              simp only [Int.natCast_add, Int.natCast_one] at this
              exact this
            · obtain ⟨c1, c2, c3, c4, c5, c6⟩ := hA
              have hcl := cat_len (t := t) (q := p) (g := g)
              have hp0' := ne_nil_len.mp hp0
              have hp3 := hp12.add c1 c2 c3
              have e9 : gi I3 v 9 = b := by rw [gi_congr (c1 v (by omega) (by omega) (by omega)) 9]; exact hb9
              simp (disch := omega) only [q_92_0, q_92_1, q_92_4, q_92_5, q_92_7, q_92_10, q_92_11, q_92_14, q_92_15, q_92_16, q_92_19, q_92_20, q_92_20o, q_92_22, q_92_22o, q_92_24o, q_92_24, q_92_27, q_92_28, q_92_31, q_92_32, q_92_34, q_92_37, q_92_38, q_92_39, q_92_40, q_92_42, q_92_43, q_92_47, q_92_47o, q_92_49, q_92_52, q_92_55, q_92_55o, q_92_57, q_92_59, q_92_62, q_92_64, q_92_66, q_92_68, q_92_71, q_92_72, q_92_74, q_92_77, q_92_77o, q_92_79, q_92_81, q_92_82, q_92_85, q_92_88, q_92_91, q_92_92, q_92_95, q_92_96, q_92_97, q_92_99, q_92_101, q_92_104, q_92_105, q_92_105o, q_92_107, q_92_109, q_92_110, q_92_112, q_92_112o, q_92_115, q_92_117, q_92_120, q_92_120o, q_92_122, q_92_124, q_92_125, q_92_128, q_92_130, q_92_131, q_92_133, q_92_134, q_92_135, q_92_136, q_92_139, q_92_142, q_92_143, q_92_146, q_92_147, q_92_148, q_92_149, q_92_150, q_92_152, q_92_155, q_92_156, q_92_157, q_92_159, q_92_160, q_92_162, q_92_165, q_92_167, q_92_169, q_92_172, q_92_173, q_92_176, q_92_177, q_92_178, q_92_179, q_92_180, q_92_182, q_92_185, q_92_186, q_92_187, q_92_190, q_92_191, q_92_192, q_92_194, q_92_197, q_92_198, q_92_200, q_92_203, q_92_206, q_92_207, q_92_e, va_rf_s, bz_0, bz_1, bz_ok, bb_ok, Nat.add_assoc, w_lt, w_add, w_sub, w_mul, w_div, em_def, w_eq, w_inT, ↓ilt_t, ↓ilt_f, ↓ieq_t, ↓ieq_f, ntT, w_b, w_ix, kx_v, kx_n, kl_n, kl_i, kl_r, kl_o, inA_i, inA_s, inA_b, inA_z, inA_l, inA_0, inA_4, inA_5, inA_6, inA_7, inA_8, inA_9, inA_10, al_0, al_1, al_2, al_4, al_5, al_98, bsP_2, bsP_3, wr_same, wr_wr, wr_ne, up_same, up_ne, Nat.reduceAdd, Int.reduceAdd, Int.reduceSub, Int.reduceMul, Int.reduceLT, Int.reduceLE, Int.reduceEq, Int.reduceNeg, Int.reduceToNat, Nat.reduceLT, Nat.reduceLeDiff, Nat.reduceEqDiff, ↓reduceIte, true_and, and_true, not_true_eq_false, not_false_eq_true, eq_self, or_true, true_or, or_false, false_or, if_true, if_false, Int.toNat_natCast, w_ite, Nat.add_zero, reduceCtorEq, ne_eq, g0, g6, c4]
              rw [← bz_f]
              have := ih (i + 1) (cat t g p) false (max h (h' + 1)) I3 (some (.int (w (ρ.2.2.2.2.getD i d0).1))) (some (.int (w t.length))) (some (.int (w 1))) (some (.int (w q))) Q (by omega) hp3 (by rw [c1 _ (by omega) (by omega) (by omega)]; exact hop3) c4 (by omega) c6 c5 (by omega) (by omega) (by omega) (fun o I' h1 h2 hbt h3 h4 hue => by
                rw [e9] at h3 h4 hue
                have hb23 : ∀ k, ubit I2 v k = true → ubit I' v k = true := fun k h => hbt k (by unfold ubit at h ⊢; rw [c1 v (by omega) (by omega) (by omega)]; exact h)
                have hun : ∀ k2, ubit I' v k2 = false → ubit I2 v k2 = false := fun k2 h => by
                  cases e : ubit I2 v k2 with
                  | false => rfl
                  | true => rw [hb23 k2 e] at h; cases h
                refine hQ o I' h1 h2 (fun k h => hb23 k (hp2.2.2.2.2.2.2.2.2 k h)) ?_ ?_ (fun k2 hk2 hu2 hy a0 => by
                  have hq := (hp2.2.2.2.2.1 k2 hk2 (hun k2 hu2) (sl q) (sl_bd q) (by omega)).2 hb4
                  rw [hb3, hev30] at hq
                  rw [sayIs_p k6 k0 hw hS hp0 hlen] at hy
                  rw [evIs_p k6 k0 hw hev30 hp0 hlen, evIs_p k6 k0 hw hq hp0 hlen]
                  exact hue k2 hk2 hu2 hy _)
                · rw [sayIs_p k6 k0 hw hS hp0 hlen]
                  exact h3.mono (fun t' h => h.step (fun a0 => by rw [evIs_p k6 k0 hw hev30 hp0 hlen]; congr 1; omega))
                · intro k3 k2 hk2 hu2
                  have h5 := h4 k3 k2 hk2 hu2
                  have hu2' : ubit I2 v k2 = false := by
                    cases e : ubit I2 v k2 with
                    | false => rfl
                    | true => rw [hb23 k2 e] at hu2; cases hu2
                  have := hag k2 hk2 hu2'
                  dsimp only at this h5 ⊢
                  rw [sayIs_p k6 k0 hw hS hp0 hlen]
                  cases hS' : say (rs.eraseIdx k2) f (n :: opl I v dep) (gi I1 v 9 + 1) q with
                  | inr l' => rw [hS'] at this; cases this
                  | inl y => rw [hS'] at this; cases this; rw [sayIs_p k6 k0 hw hS' hp0 hlen]; exact h5)
              simp only [Int.natCast_add, Int.natCast_one] at this
              exact this
end

/-! the cells of a new object: what the state's relations ask -/
section
variable {F : Hp} {a : Nat}
theorem wz (i : Nat) : (0 : Int32) = w 0 := rfl
theorem hs_62 (h : Has F a (c_62 a)) : TapeS (shp F) a ∧ cI F a 1 = w 0 := by
  obtain ⟨h0, h1, -⟩ := h
  exact ⟨⟨fS h0, fS h1⟩, by rw [fI h0]; rfl⟩
theorem hs_0 (h : Has F a (c_0 a)) : BookS (shp F) a ∧ cI F a 2 = w 100 ∧ (∀ i, cR F (a + 1) i = none) ∧ ∀ i, cI F (a + 2) i = w 0 := by
  obtain ⟨h0, h1, h2, -⟩ := h
  exact ⟨⟨fS h0, fS h1, fS h2⟩, by rw [fI h0]; rfl, fun i => by rw [fR h1]; rfl, fun i => by rw [show a + 2 = a + 1 + 1 from rfl, fI h2]; rfl⟩
theorem hs_22 (h : Has F a (c_22 a)) : HistS (shp F) (cR F) a ∧ cI F a 1 = w 0 ∧ cI F a 2 = w 0 ∧ ∀ j, j < 12 → ∀ i, cR F (a + 2 + 3 * j + 1) i = none := by
  obtain ⟨h0, h1, h2⟩ := h
  have hb := fun i hi => hs_0 (by have := Has_bks h2 i hi; rwa [show a + 1 + 1 + 3 * i = a + 2 + 3 * i by omega] at this)
  refine ⟨⟨fS h0, fS h1, fun i hi => ⟨?_, (hb i hi).1⟩⟩, by rw [fI h0]; rfl, by rw [fI h0]; rfl, fun j hj i => (hb j hj).2.2.1 i⟩
  rw [fR h1]
  exact hf_at 12 hi
theorem hs_64 (h : Has F a (c_64 a)) : RdS0 (shp F) a := by
  obtain ⟨h0, h1, h2, h3, h4, h5, h6, -⟩ := h
  exact ⟨fS h0, fS h1, fS h3, fS h4, fS h5, fS h6⟩
theorem hs_96 (h : Has F a (c_96 a)) : WcS (shp F) a := by
  obtain ⟨h0, h1, h2, h3, -⟩ := h
  exact ⟨fS h0, fS h1, fS h2, fS h3⟩
theorem hs_11 (h : Has F a (c_11 a)) : ChS (shp F) a := by
  obtain ⟨h0, h1, h2, h3, h4, h5, h6, h7, -⟩ := h
  exact ⟨fS h0, fS h1, fS h2, fS h3, fS h4, fS h5, fS h6, fS h7⟩
theorem hs_8 (h : Has F a (c_8 a)) : CauS (shp F) a := by
  obtain ⟨h0, h1, h2, h3, h4, -⟩ := h
  exact ⟨fS h0, fS h1, fS h2, fS h3, fS h4⟩
theorem hs_25 (h : Has F a (c_25 a)) : MemoS (shp F) a ∧ ∀ j, j < 1152 → cI F (a + 2) j = w (-1) := by
  obtain ⟨h0, h1, h2, h3, h4, h5, -⟩ := h
  refine ⟨⟨fS h0, fS h1, fS h2, fS h3, fS h4, fS h5⟩, fun j hj => ?_⟩
  rw [show a + 2 = a + 1 + 1 from rfl, fI h2]
  show (if j < 1152 then w (-1) else 0) = _
  rw [if_pos hj]
theorem hs_80 (h : Has F a (c_80 a)) : VoiS (shp F) a ∧ cI F a 3 = w 0 ∧ (∀ i, cR F (a + 12) i = none) ∧ ∀ j, j < 1152 → cI F (a + 3) j = w (-1) := by
  unfold c_80 at h
  simp only [Has_cons, Has_app, Has_nil, l_25, l_8, List.length_append, List.length_cons, List.length_nil, Nat.zero_add, Nat.add_assoc, Nat.reduceAdd, and_true] at h
  obtain ⟨h0, ⟨⟨⟨⟨⟨⟨h1, h2⟩, h3⟩, h4⟩, h5⟩, h6⟩, h7⟩⟩ := h
  obtain ⟨m1, m2⟩ := hs_25 h1
  exact ⟨⟨fS h0, m1, hs_8 h2, fS h3, fS h4, fS h5, fS h6, fS h7⟩, by rw [fI h0]; rfl, fun i => by rw [fR h3]; rfl, m2⟩
theorem hs_41 (h : Has F a (c_41 a)) : RankS (shp F) a ∧ cI F (a + 1) 3 = w 0 ∧ cI F a 4 = w (-1) ∧ (∀ i, cR F (a + 13) i = none) ∧ ∀ j, j < 1152 → cI F (a + 4) j = w (-1) := by
  unfold c_41 at h
  simp only [Has_cons, Has_app, Has_nil, l_80, List.length_append, List.length_cons, List.length_nil, Nat.zero_add, Nat.add_assoc, Nat.reduceAdd, and_true] at h
  obtain ⟨h0, ⟨h1, h2⟩, h3⟩ := h
  obtain ⟨v1, v2, v3, v4⟩ := hs_80 h1
  exact ⟨⟨fS h0, v1, fS h2, fS h3⟩, v2, by rw [fI h0]; rfl, v3, v4⟩
theorem hs_104 {L : ML} {G : MG} {lo : Nat} (h : Has F a (c_104 a)) (hlo : a + 121 ≤ lo) (hG : lo ≤ G.1) : CR (shp F) (cI F) L (cR F) G a lo s00 := by
  unfold c_104 at h
  simp only [Has_cons, Has_app, Has_nil, l_62, l_0, l_22, l_64, l_41, l_80, l_96, l_11, List.length_append, List.length_cons, List.length_nil, Nat.zero_add, Nat.add_assoc, Nat.reduceAdd, and_true] at h
  obtain ⟨h0, ⟨⟨⟨⟨⟨⟨⟨⟨⟨h1, h2⟩, h3⟩, h4⟩, h5⟩, h6⟩, h7⟩, h8⟩, h9⟩, h10⟩⟩ := h
  obtain ⟨t1, t2⟩ := hs_62 h1
  obtain ⟨b1, b2, b3, b4⟩ := hs_0 h2
  obtain ⟨y1, y2, y3, y4⟩ := hs_22 h3
  have r1 := hs_64 h4
  obtain ⟨k1, k2, k3, k4, k5⟩ := hs_41 h5
  obtain ⟨q1, q2, q3, q4, q5⟩ := hs_41 h6
  obtain ⟨v1, v2, v3, v4⟩ := hs_80 h7
  have u1 := hs_96 h8
  have x1 := hs_11 h9
  refine CR.zero ⟨fS h0, t1, b1, y1, r1, k1, q1, v1, u1, x1, fS h10⟩ hlo hG t2 b2 (fun l hl => b4 l) y2 y3 (fun i hi => b3 i) (fun j hj i hi => by have := y4 j hj i; rwa [show a + 6 + 2 + 3 * j + 1 = a + 8 + 3 * j + 1 by omega] at this) (fun i hi => k4 i) (fun i hi => q4 i) (fun i hi => v3 i) (fun l hl => ?_) (by rw [fI h0]; rfl) (by rw [fI h0]; rfl) (by rw [fI h0]; rfl)
  have : l = 0 ∨ l = 1 := by omega
  rcases this with rfl | rfl
  · exact ⟨k2, k3, k5⟩
  · exact ⟨q2, q3, q5⟩
theorem ml_two {n k t M : Nat} {r : List Nat} (hm : x_msz (k :: r) = M) (h : Has F a (ml (n :: k :: r) t a)) : shp F a = some (.inl (t, n)) ∧ ∀ i, i < n → ∀ b, b = a + 1 + i * M → cR F a i = some b ∧ Has F b (ml (k :: r) (x_sub t) b) := by
  subst hm
  obtain ⟨p0, p⟩ := Has_mls h
  refine ⟨fS p0, fun i hi b e => ⟨?_, by rw [e]; exact p i hi⟩⟩
  rw [fR p0, e]
  show (if i < n then _ else _) = _
  rw [if_pos hi]
theorem ml_one {n t : Nat} (h : Has F a (ml [n] t a)) : F.1 a = some (x_arr0 t n) := h.1
theorem hs_mr (h : Has F (a + 5) (ml [27, 30, 17] 7 (a + 5))) : MRule (shp F) (cR F) a := by
  obtain ⟨p0, p⟩ := ml_two (M := 31) rfl h
  refine ⟨p0, fun s hs => ?_⟩
  obtain ⟨e1, h1⟩ := p s hs (a + 6 + 31 * s) (by omega)
  obtain ⟨q0, q⟩ := ml_two (M := 1) rfl h1
  refine ⟨e1, q0, fun k hk => ?_⟩
  obtain ⟨e2, h2⟩ := q k hk (a + 7 + 31 * s + k) (by omega)
  exact ⟨e2, fS (ml_one h2)⟩
theorem hs_mw (h : Has F (a + 843) (ml [27, 30, 6, 8] 10 (a + 843))) : MWord (shp F) (cR F) a := by
  obtain ⟨p0, p⟩ := ml_two (M := 211) rfl h
  refine ⟨p0, fun s hs => ?_⟩
  obtain ⟨e1, h1⟩ := p s hs (a + 844 + 211 * s) (by omega)
  obtain ⟨q0, q⟩ := ml_two (M := 7) rfl h1
  refine ⟨e1, q0, fun k hk => ?_⟩
  obtain ⟨e2, h2⟩ := q k hk (a + 845 + 211 * s + 7 * k) (by omega)
  obtain ⟨r0, r⟩ := ml_two (M := 1) rfl h2
  refine ⟨e2, r0, fun i hi => ?_⟩
  obtain ⟨e3, h3⟩ := r i hi (a + 846 + 211 * s + 7 * k + i) (by omega)
  exact ⟨e3, fS (ml_one h3)⟩
theorem hs_2d {b n m : Nat} (h : Has F b (ml [n, m] 6 b)) : shp F b = some (.inl (6, n)) ∧ ∀ i, i < n → cR F b i = some (b + 1 + i) ∧ shp F (b + 1 + i) = some (.inl (0, m)) := by
  obtain ⟨p0, p⟩ := ml_two (M := 1) rfl h
  refine ⟨p0, fun i hi => ?_⟩
  obtain ⟨e1, h1⟩ := p i hi (b + 1 + i) (by omega)
  exact ⟨e1, fS (ml_one h1)⟩
theorem hs_152 {G : MG} (h : Has F a (c_152 a)) (hG : a + 6678 ≤ G.1) : MS (shp F) (cI F) (cR F) G a s00 := by
  unfold c_152 at h
  simp only [Has_cons, Has_app, Has_nil, l_ml, m_1, m_2, m_3, m_4, List.length_append, List.length_cons, List.length_nil, Nat.zero_add, Nat.add_assoc, Nat.reduceAdd, and_true] at h
  obtain ⟨h0, ⟨⟨⟨⟨⟨⟨⟨⟨⟨⟨⟨⟨⟨⟨⟨⟨⟨⟨⟨⟨⟨⟨⟨⟨⟨⟨h1, h2, h3, h4⟩, hA⟩, hB⟩, g1⟩, g2⟩, hC⟩, g3⟩, g4⟩, g5⟩, g6⟩, g7⟩, g8⟩, g9⟩, g10⟩, g11⟩, g12⟩, g13⟩, hD⟩, hE⟩, g14⟩, g15⟩, g16⟩, g17⟩, g18⟩, g19⟩, g20⟩, g21⟩ := h
  refine MS.zero ⟨fS h0, fS h1, fS h2, fS h3, fS h4, ?_, ?_, ?_, ?_, ?_, ?_⟩ hG ⟨by rw [fI h1]; rfl, by rw [fI h1]; rfl⟩ (by rw [fI h0]; rfl) (by rw [fI h0]; rfl) (by rw [fI h0]; rfl) (by rw [fI h0]; rfl) (by rw [fI h0]; rfl) (fun l hl => by rw [fI h3]; rfl)
  · exact hs_mr hA
  · exact hs_mw hB
  · obtain ⟨p0, p⟩ := hs_2d hC
    exact ⟨fS g1, fS g2, p0, p⟩
  · exact ⟨fS g3, fS g4, fS g5, fS g6, fS g7, fS g8, fS g9, fS g10⟩
  · obtain ⟨p0, p⟩ := hs_2d hD
    obtain ⟨q0, q⟩ := hs_2d hE
    exact ⟨fS g11, fS g12, fS g13, p0, q0, fun i hi => ⟨(p i hi).1, (p i hi).2, (q i hi).1, (q i hi).2⟩, fS g14, fS g15, fS g16⟩
  · exact ⟨fS g17, fS g18, fS g19, fS g20, fS g21⟩
theorem KFl_c0 : KFl a (c_0 a) := ⟨rfl, KF_arr (by decide), KF_arr (by decide), trivial⟩
theorem KFl_c62 : KFl a (c_62 a) := ⟨rfl, KF_arr (by decide), trivial⟩
theorem KFl_c64 : KFl a (c_64 a) := ⟨rfl, KF_arr (by decide), KF_arr (by decide), KF_arr (by decide), KF_arr (by decide), KF_arr (by decide), KF_arr (by decide), trivial⟩
theorem KFl_c96 : KFl a (c_96 a) := ⟨rfl, KF_arr (by decide), KF_arr (by decide), KF_arr (by decide), trivial⟩
theorem KFl_c11 : KFl a (c_11 a) := ⟨rfl, KF_arr (by decide), KF_arr (by decide), KF_arr (by decide), KF_arr (by decide), KF_arr (by decide), KF_arr (by decide), KF_arr (by decide), trivial⟩
theorem KFl_c8 : KFl a (c_8 a) := ⟨rfl, KF_arr (by decide), KF_arr (by decide), KF_arr (by decide), KF_arr (by decide), trivial⟩
theorem KFl_c25 : KFl a (c_25 a) := ⟨rfl, KF_arr (by decide), KF_ia, KF_arr (by decide), KF_arr (by decide), KF_arr (by decide), trivial⟩
theorem KFl_c22 : KFl a (c_22 a) := ⟨rfl, KF_rf (by decide) (by decide), KFl_bks⟩
theorem KFl_c80 : KFl a (c_80 a) := by
  unfold c_80
  simp only [KFl_cons, KFl_app, KFl_nil, l_25, l_8, List.length_append, List.length_cons, List.length_nil, Nat.zero_add, Nat.add_assoc, Nat.reduceAdd, and_true]
  exact ⟨rfl, ⟨⟨⟨⟨⟨KFl_c25, KFl_c8⟩, KF_arr (by decide)⟩, KF_arr (by decide)⟩, KF_arr (by decide)⟩, KF_arr (by decide)⟩, KF_arr (by decide)⟩
theorem KFl_c41 : KFl a (c_41 a) := by
  unfold c_41
  simp only [KFl_cons, KFl_app, KFl_nil, l_80, List.length_append, List.length_cons, List.length_nil, Nat.zero_add, Nat.add_assoc, Nat.reduceAdd, and_true]
  exact ⟨rfl, ⟨KFl_c80, KF_arr (by decide)⟩, KF_arr (by decide)⟩
theorem KFl_c104 : KFl a (c_104 a) := by
  unfold c_104
  simp only [KFl_cons, KFl_app, KFl_nil, l_62, l_0, l_22, l_64, l_41, l_80, l_96, l_11, List.length_append, List.length_cons, List.length_nil, Nat.zero_add, Nat.add_assoc, Nat.reduceAdd, and_true]
  exact ⟨rfl, ⟨⟨⟨⟨⟨⟨⟨⟨KFl_c62, KFl_c0⟩, KFl_c22⟩, KFl_c64⟩, KFl_c41⟩, KFl_c41⟩, KFl_c80⟩, KFl_c96⟩, KFl_c11⟩, KF_arr (by decide)⟩
theorem KF_mod : KF a (.inr (12, [.int (w 0), .ref (a + 1), .int (w 0), .int (w 0), .int (w 0), .int (w (-1)), .int (w 0), .int (w 0), .ref (a + 2), .ref (a + 3), .ref (a + 4), .ref (a + 5), .ref (a + 843), .int (w (100)), .int (w 0), .ref (a + 6541), .int (w 0), .int (w 0), .int (w 0), .int (w 0), .ref (a + 6542), .ref (a + 6543), .int (w (-1)), .ref (a + 6577), .ref (a + 6578), .ref (a + 6579), .ref (a + 6580), .ref (a + 6581), .ref (a + 6582), .ref (a + 6583), .ref (a + 6584), .int (w 0), .ref (a + 6585), .int (w 0), .int (w 0), .int (w 0), .int (w 0), .ref (a + 6586), .ref (a + 6587), .ref (a + 6588), .ref (a + 6629), .ref (a + 6670), .ref (a + 6671), .ref (a + 6672), .ref (a + 6673), .ref (a + 6674), .ref (a + 6675), .ref (a + 6676), .ref (a + 6677), .int (w 0)])) := rfl
theorem KFl_c152 : KFl a (c_152 a) := by
  unfold c_152
  simp only [KFl_cons, KFl_app, KFl_nil, l_ml, m_1, m_2, m_3, m_4, List.length_append, List.length_cons, List.length_nil, Nat.zero_add, Nat.add_assoc, Nat.reduceAdd, and_true]
  have m1 : ∀ b, KFl b (ml [27, 30, 17] 7 (a + 5)) := fun b => KFl_ml _ _ _ _ ⟨by decide, by decide, by decide, by decide, x_subk⟩
  have m2 : ∀ b, KFl b (ml [27, 30, 6, 8] 10 (a + 843)) := fun b => KFl_ml _ _ _ _ ⟨by decide, by decide, by decide, by decide, by decide, by decide, x_subk⟩
  have m3 : ∀ b c n k, KFl b (ml [n, k] 6 c) := fun b c n k => KFl_ml _ _ _ _ ⟨by decide, by decide, x_subk⟩
  refine ⟨KF_mod, ?_⟩
  simp only [m1, m2, m3, KF_arr (show 0 < 11 by decide), KF_arr (show 1 < 11 by decide), KF_arr (show 2 < 11 by decide), KF_arr (show 3 < 11 by decide), and_true, true_and, and_self]
end

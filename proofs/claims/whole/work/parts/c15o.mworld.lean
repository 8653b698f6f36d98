/-! an array of arrays, in the world -/
theorem y_aoA : Cond.arrayOver (.array .int) ∈ lw_tbl ∧ Cond.arrayOver (.array (.array .int)) ∈ lw_tbl ∧ Cond.arrayOver (.array .byte) ∈ lw_tbl ∧ Cond.arrayOver (.array (.array .byte)) ∈ lw_tbl ∧ Cond.arrayOver (.array (.array (.array .byte))) ∈ lw_tbl := by decide +kernel
theorem y_aoSpec {args : Array Value} {s : State} {t : FieldType} (h : (Cond.arrayOver (.array t)).before args s = true) :
    ∃ comp c k, s.vm.findClass (FieldType.array t).toString = some comp ∧ s.vm.classes[c]? = some k ∧ k.kind = .array comp (.array t) ∧ s.vm.findClass ("[" ++ (FieldType.array t).toString) = some c := by
  simp only [Cond.before, Cond.holds, Cond.value, beq_iff_eq] at h
  cases hc : s.vm.findClass (FieldType.array t).toString with
  | none => simp [hc] at h
  | some comp =>
    simp only [hc, Option.bind_some, Option.bind_eq_some_iff, Option.map_eq_some_iff] at h
    obtain ⟨c, hi, k, hk, hb⟩ := h
    obtain ⟨hlt, hp, -⟩ := Array.findIdx?_eq_some_iff_getElem.mp hi
    have hkk : s.vm.classes[c] = k := (Array.getElem?_eq_some_iff.mp hk).2
    rw [hkk] at hp
    cases hkind : k.kind with
    | array component ty =>
      rw [hkind] at hb hp
      simp at hb hp
      exact ⟨comp, c, k, rfl, hk, by rw [hkind, hp, hb.1], hb.2⟩
    | _ => rw [hkind] at hb; simp at hb
def y_zs (dA : Nat → ClassId) : List Nat → Nat → List (ClassId × Nat × Value)
  | [], _ => []
  | [n], t => [(dA t, n, .int 0)]
  | n :: (k :: r), t => (dA t, n, .null) :: y_zs dA (k :: r) (x_sub t)
def y_tok : List Nat → Nat → Prop
  | [], _ => False
  | [_], t => t = 0 ∨ t = 2
  | _ :: (k :: r), t => 4 ≤ t ∧ t < 11 ∧ y_tok (k :: r) (x_sub t)
def y_xu : List Nat → Nat
  | [] => 0
  | [n] => n
  | n :: (k :: r) => n + n * y_xu (k :: r)
theorem x_push_set {T : Hp} {a n : Nat} {e e' : CE} (h : a < T.2.1) : h_push (h_set T a e) e' n = h_set (h_push T e' n) a e := by
  refine Prod.ext (funext fun x => ?_) rfl
  show (if x = T.2.1 then some e' else if x = a then some e else T.1 x) = (if x = a then some e else if x = T.2.1 then some e' else T.1 x)
  by_cases c : x = a
  · rw [if_neg (by omega), if_pos c, if_pos c]
  · rw [if_neg c, if_neg c]
theorem x_iter_nx {g : Hp → Hp} {k u : Nat} (hg : ∀ T, (g T).2.1 = T.2.1 + k ∧ (g T).2.2.1 = T.2.2.1 + u) : ∀ (j : Nat) (T : Hp), (x_iter g j T).2.1 = T.2.1 + j * k ∧ (x_iter g j T).2.2.1 = T.2.2.1 + j * u
  | 0, T => ⟨by rw [Nat.zero_mul]; rfl, by rw [Nat.zero_mul]; rfl⟩
  | j + 1, T => by
    show (g (x_iter g j T)).2.1 = _ ∧ (g (x_iter g j T)).2.2.1 = _
    rw [(hg _).1, (hg _).2, (x_iter_nx hg j T).1, (x_iter_nx hg j T).2, Nat.succ_mul, Nat.succ_mul]
    omega
theorem x_multi_nx : ∀ (ds : List Nat) (t : Nat) (T : Hp), (x_multi ds t T).2.1 = T.2.1 + x_msz ds ∧ (x_multi ds t T).2.2.1 = T.2.2.1 + y_xu ds
  | [], _, T => ⟨rfl, rfl⟩
  | [n], t, T => ⟨rfl, rfl⟩
  | n :: (k :: r), t, T => by
    show (x_iter (x_multi (k :: r) (x_sub t)) n (h_push T _ n)).2.1 = _ ∧ (x_iter (x_multi (k :: r) (x_sub t)) n (h_push T _ n)).2.2.1 = _
    rw [(x_iter_nx (fun U => x_multi_nx (k :: r) (x_sub t) U) n _).1, (x_iter_nx (fun U => x_multi_nx (k :: r) (x_sub t) U) n _).2]
    show T.2.1 + 1 + n * x_msz (k :: r) = T.2.1 + (1 + n * x_msz (k :: r)) ∧ T.2.2.1 + n + n * y_xu (k :: r) = T.2.2.1 + (n + n * y_xu (k :: r))
    omega
theorem x_iter_set {g : Hp → Hp} {k : Nat} (hn : ∀ T, (g T).2.1 = T.2.1 + k) (hg : ∀ T a e, a < T.2.1 → g (h_set T a e) = h_set (g T) a e) : ∀ (j : Nat) (T : Hp) (a : Nat) (e : CE), a < T.2.1 → x_iter g j (h_set T a e) = h_set (x_iter g j T) a e ∧ T.2.1 ≤ (x_iter g j T).2.1
  | 0, T, a, e, h => ⟨rfl, Nat.le_refl _⟩
  | j + 1, T, a, e, h => by
    obtain ⟨h1, h2⟩ := x_iter_set hn hg j T a e h
    refine ⟨?_, ?_⟩
    · show g (x_iter g j (h_set T a e)) = h_set (g (x_iter g j T)) a e
      rw [h1, hg _ _ _ (by omega)]
    · show T.2.1 ≤ (g (x_iter g j T)).2.1
      rw [hn]; omega
theorem x_multi_set : ∀ (ds : List Nat) (t : Nat) (T : Hp) (a : Nat) (e : CE), a < T.2.1 → x_multi ds t (h_set T a e) = h_set (x_multi ds t T) a e
  | [], _, T, a, e, h => rfl
  | [n], t, T, a, e, h => x_push_set h
  | n :: (k :: r), t, T, a, e, h => by
    show x_iter (x_multi (k :: r) (x_sub t)) n (h_push (h_set T a e) _ n) = h_set (x_iter (x_multi (k :: r) (x_sub t)) n (h_push T _ n)) a e
    have e0 : (h_set T a e).2.1 = T.2.1 := rfl
    rw [e0, x_push_set h]
    exact (x_iter_set (fun U => (x_multi_nx (k :: r) (x_sub t) U).1) (fun U b f hb => x_multi_set (k :: r) (x_sub t) U b f hb) n _ a e (by show a < T.2.1 + 1; omega)).1
theorem x_iter_lt {g : Hp → Hp} {k : Nat} (hn : ∀ T, (g T).2.1 = T.2.1 + k) (hg : ∀ T a, a < T.2.1 → (g T).1 a = T.1 a) : ∀ (j : Nat) (T : Hp) (a : Nat), a < T.2.1 → (x_iter g j T).1 a = T.1 a ∧ T.2.1 ≤ (x_iter g j T).2.1
  | 0, T, a, h => ⟨rfl, Nat.le_refl _⟩
  | j + 1, T, a, h => by
    obtain ⟨h1, h2⟩ := x_iter_lt hn hg j T a h
    refine ⟨?_, ?_⟩
    · show (g (x_iter g j T)).1 a = _
      rw [hg _ _ (by omega), h1]
    · show T.2.1 ≤ (g (x_iter g j T)).2.1
      rw [hn]; omega
theorem x_multi_lt : ∀ (ds : List Nat) (t : Nat) (T : Hp) (a : Nat), a < T.2.1 → (x_multi ds t T).1 a = T.1 a
  | [], _, T, a, h => rfl
  | [n], t, T, a, h => if_neg (by omega)
  | n :: (k :: r), t, T, a, h => by
    show (x_iter (x_multi (k :: r) (x_sub t)) n (h_push T _ n)).1 a = T.1 a
    rw [(x_iter_lt (fun U => (x_multi_nx (k :: r) (x_sub t) U).1) (fun U b hb => x_multi_lt (k :: r) (x_sub t) U b hb) n _ a (by show a < T.2.1 + 1; omega)).1]
    exact if_neg (by omega)
theorem y_zs_c (dA : Nat → ClassId) : ∀ (ds : List Nat) (t : Nat), y_mzc (y_zs dA ds t) = x_msz ds ∧ y_mzu (y_zs dA ds t) = y_xu ds
  | [], _ => ⟨rfl, rfl⟩
  | [n], t => ⟨rfl, rfl⟩
  | [n, k], t => ⟨rfl, rfl⟩
  | n :: k :: k' :: r, t => by
    obtain ⟨h1, h2⟩ := y_zs_c dA (k :: k' :: r) (x_sub t)
    constructor
    · show 1 + n * y_mzc (y_zs dA (k :: k' :: r) (x_sub t)) = 1 + n * x_msz (k :: k' :: r)
      rw [h1]
    · show n + n * y_mzu (y_zs dA (k :: k' :: r) (x_sub t)) = n + n * y_xu (k :: k' :: r)
      rw [h2]
theorem y_zs_s (dA : Nat → ClassId) : ∀ (ds : List Nat) (t : Nat), (y_zs dA ds t).map (fun z => z.2.1) = ds
  | [], _ => rfl
  | [n], t => rfl
  | n :: (k :: r), t => by
    show n :: (y_zs dA (k :: r) (x_sub t)).map (fun z => z.2.1) = n :: k :: r
    rw [y_zs_s dA (k :: r) (x_sub t)]
theorem y_mk_cons {dA : Nat → ClassId} {n k t : Nat} {r : List Nat} {T : State} : y_mk (y_zs dA (n :: k :: r) t) T = y_fill (y_mk (y_zs dA (k :: r) (x_sub t))) T.heap.size n (T.pushCell { cls := dA t, slots := Array.replicate n .null, vm := .none }) := by
  cases r <;> rfl
section YW
variable {s : State} {D : va_G} {dA : Nat → ClassId} {lo : Nat} {locs : List Loc}
theorem y_V.less {A : Hp} {H : Heap} {ex : List Loc} (h : y_V D dA lo s s.heap A H (locs ++ ex)) : y_V D dA lo s s.heap A H locs := ⟨h.1, h.2.1, h.2.2.1, h.2.2.2.1, h.2.2.2.2.1, fun l hl => h.2.2.2.2.2 l (List.mem_append_left _ hl)⟩
def y_fo (b M : Nat) (i : Nat) : Nat → Option Nat := fun j => if j < i then some (b + j * M) else none
theorem y_fo_s {b M i : Nat} : va_up (y_fo b M i) i (some (b + i * M)) = y_fo b M (i + 1) := by
  funext j
  show (if j = i then some (b + i * M) else if j < i then some (b + j * M) else none) = (if j < i + 1 then some (b + j * M) else none)
  by_cases c : j = i
  · subst c; rw [if_pos rfl, if_pos (by omega)]
  · rw [if_neg c]
    by_cases c2 : j < i
    · rw [if_pos c2, if_pos (by omega)]
    · rw [if_neg c2, if_neg (by omega)]
def y_oc (t n b M i : Nat) : CE := .inl (t, n, .inr (.inr (.inr (.inr (y_fo b M i)))))
theorem x_push_oc {A : Hp} {e e' : CE} {n : Nat} : h_set (h_push A e n) A.2.1 e' = h_push A e' n := by
  refine Prod.ext (funext fun x => ?_) rfl
  show (if x = A.2.1 then some e' else if x = A.2.1 then some e else A.1 x) = (if x = A.2.1 then some e' else A.1 x)
  by_cases c : x = A.2.1
  · rw [if_pos c, if_pos c]
  · rw [if_neg c, if_neg c, if_neg c]
theorem y_world : ∀ (ds : List Nat) (t : Nat), y_tok ds t → ∀ (T : State) (A : Hp), y_V D dA lo s s.heap A T.heap locs → y_V D dA lo s s.heap (x_multi ds t A) (y_mk (y_zs dA ds t) T).heap locs
  | [], _, h, _, _, _ => absurd h id
  | [n], t, h, T, A, V => by
    show y_V D dA lo s s.heap (h_push A (x_arr0 t n) n) (T.pushCell { cls := dA t, slots := Array.replicate n (.int 0), vm := .none }).heap locs
    have ex : x_arr0 t n = .inl (t, n, .inl (fun _ => 0)) := by rcases h with rfl | rfl <;> rfl
    rw [ex]
    refine V.push (by rcases h with rfl | rfl <;> simp [y_ord]) ?_ ?_ (by simp) (fun q hq => State.heap_pushCell_of_lt _ _ hq)
    · rcases h with rfl | rfl
      · trivial
      · exact fun _ => y_byte0
    · show (T.pushCell _).heap[T.heap.size]? = some (vp_cell (dA t) _)
      rw [State.heap_pushCell_size, arrV_new]
      rfl
  | n :: (k :: r), t, ⟨h4, h11, hr⟩, T, A, V => by
    have ih := y_world (k :: r) (x_sub t) hr
    rw [y_mk_cons]
    generalize hM : x_msz (k :: r) = M
    have hn := fun U => (x_multi_nx (k :: r) (x_sub t) U).1
    rw [hM] at hn
    have hord : ∀ i, y_ord (y_oc t n (A.2.1 + 1) M i) := fun i => by simp [y_oc, y_ord, h11]
    have hfb : ∀ i, y_fb (y_oc t n (A.2.1 + 1) M i) := fun i => by simp [y_oc, y_fb]
    have hsz : T.heap.size = A.2.1 := V.1.1
    have V1 : y_V D dA lo s s.heap (h_push A (y_oc t n (A.2.1 + 1) M 0) n) (T.pushCell { cls := dA t, slots := Array.replicate n .null, vm := .none }).heap locs := by
      refine V.push (hord 0) (hfb 0) ?_ (by simp) (fun q hq => State.heap_pushCell_of_lt _ _ hq)
      show (T.pushCell _).heap[T.heap.size]? = some (vp_cell (dA t) _)
      rw [State.heap_pushCell_size, arrV_new, vp_cell_q]
      rfl
    have key : ∀ i, i ≤ n → y_V D dA lo s s.heap (x_iter (x_multi (k :: r) (x_sub t)) i (h_push A (y_oc t n (A.2.1 + 1) M i) n)) (y_fill (y_mk (y_zs dA (k :: r) (x_sub t))) T.heap.size i (T.pushCell { cls := dA t, slots := Array.replicate n .null, vm := .none })).heap locs := by
      intro i
      induction i with
      | zero => intro _; exact V1
      | succ i ihi =>
        intro hi
        have Vi := ihi (by omega)
        have Vg := ih _ _ Vi
        generalize hU : y_fill (y_mk (y_zs dA (k :: r) (x_sub t))) T.heap.size i (T.pushCell { cls := dA t, slots := Array.replicate n .null, vm := .none }) = U at Vi Vg
        have hUs : U.heap.size = A.2.1 + 1 + i * M := by
          rw [Vi.1.1, (x_iter_nx (fun X => x_multi_nx (k :: r) (x_sub t) X) i _).1, hM]; rfl
        have hcell : (x_multi (k :: r) (x_sub t) (x_iter (x_multi (k :: r) (x_sub t)) i (h_push A (y_oc t n (A.2.1 + 1) M i) n))).1 A.2.1 = some (y_oc t n (A.2.1 + 1) M i) := by
          have hl := x_iter_lt hn (fun X a ha => x_multi_lt (k :: r) (x_sub t) X a ha) i (h_push A (y_oc t n (A.2.1 + 1) M i) n) A.2.1 (by show A.2.1 < A.2.1 + 1; omega)
          rw [x_multi_lt _ _ _ _ (by have := hl.2; have e : (h_push A (y_oc t n (A.2.1 + 1) M i) n).2.1 = A.2.1 + 1 := rfl; omega), hl.1]
          exact if_pos rfl
        have hce : (y_mk (y_zs dA (k :: r) (x_sub t)) U).heap[A.2.1]? = some (vp_cell (dA t) (n, .inr (.inr (.inr (.inr (y_fo (A.2.1 + 1) M i)))))) := Vg.at hcell (hord i)
        obtain ⟨l1, l2, l3, l4, l5⟩ := y_link_f (i := i) (a := U.heap.size) hce
        have hE : y_fill (y_mk (y_zs dA (k :: r) (x_sub t))) T.heap.size (i + 1) (T.pushCell { cls := dA t, slots := Array.replicate n .null, vm := .none }) = y_link (y_mk (y_zs dA (k :: r) (x_sub t)) U) A.2.1 i U.heap.size := by
          show y_link (y_mk _ (y_fill _ _ i _)) _ i (y_fill _ _ i _).heap.size = _
          rw [hU, hsz]
        rw [hE]
        have hX : x_iter (x_multi (k :: r) (x_sub t)) (i + 1) (h_push A (y_oc t n (A.2.1 + 1) M (i + 1)) n) = h_set (x_multi (k :: r) (x_sub t) (x_iter (x_multi (k :: r) (x_sub t)) i (h_push A (y_oc t n (A.2.1 + 1) M i) n))) A.2.1 (y_oc t n (A.2.1 + 1) M (i + 1)) := by
          show x_multi (k :: r) (x_sub t) (x_iter (x_multi (k :: r) (x_sub t)) i (h_push A (y_oc t n (A.2.1 + 1) M (i + 1)) n)) = _
          rw [← x_push_oc (A := A) (e := y_oc t n (A.2.1 + 1) M i) (e' := y_oc t n (A.2.1 + 1) M (i + 1))]
          obtain ⟨q1, q2⟩ := x_iter_set hn (fun X a e ha => x_multi_set (k :: r) (x_sub t) X a e ha) i (h_push A (y_oc t n (A.2.1 + 1) M i) n) A.2.1 (y_oc t n (A.2.1 + 1) M (i + 1)) (by show A.2.1 < A.2.1 + 1; omega)
          rw [q1, x_multi_set _ _ _ _ _ (by have e : (h_push A (y_oc t n (A.2.1 + 1) M i) n).2.1 = A.2.1 + 1 := rfl; omega)]
        rw [hX]
        refine y_V.less (ex := [⟨A.2.1, i⟩]) (Vg.set hcell (hord i) (hord (i + 1)) (hfb (i + 1)) ?_ l1 l4)
        show (y_link _ _ _ _).heap[A.2.1]? = some (vp_cell (dA t) (n, .inr (.inr (.inr (.inr (y_fo (A.2.1 + 1) M (i + 1)))))))
        rw [l5, vp_cell_q, arrV_store, ← y_fo_s, ← y_updq, hUs]
        rfl
    have := key n (Nat.le_refl _)
    have e : x_multi (n :: k :: r) t A = x_iter (x_multi (k :: r) (x_sub t)) n (h_push A (y_oc t n (A.2.1 + 1) M n) n) := by
      show x_iter _ n (h_push A _ n) = _
      rw [hM]
      rfl
    rw [e]
    exact this
end YW

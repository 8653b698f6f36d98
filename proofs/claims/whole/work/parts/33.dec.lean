/-! conditions that can be decided by arithmetic, decided ahead of their branches -/
theorem ilt_t {α : Sort _} {a b : Int} {X Y : α} (h : a < b) (h1 : -2147483648 ≤ a) (h4 : b < 2147483648) : (if w a < w b then X else Y) = X := if_pos ((w_lt h1 (by omega) (by omega) h4).mpr h)
theorem ilt_f {α : Sort _} {a b : Int} {X Y : α} (h : b ≤ a) (h2 : a < 2147483648) (h3 : -2147483648 ≤ b) : (if w a < w b then X else Y) = Y := if_neg (fun e => by have := (w_lt (by omega) h2 h3 (by omega)).mp e; omega)
theorem ieq_t {α : Sort _} {a b : Int} {X Y : α} (h : a = b) : (if w a = w b then X else Y) = X := if_pos (by rw [h])
theorem ieq_f {α : Sort _} {a b : Int} {X Y : α} (h : a ≠ b) (h1 : -2147483648 ≤ a) (h2 : a < 2147483648) (h3 : -2147483648 ≤ b) (h4 : b < 2147483648) : (if w a = w b then X else Y) = Y := if_neg (fun e => h ((w_eq h1 h2 h3 h4).mp e))
theorem w_inT {a : Int} {n : Nat} (h1 : 0 ≤ a) (h2 : a < n) (h3 : a < 2147483648) : x_in (w a) n = true ↔ True := ⟨fun _ => trivial, fun _ => (w_in (by omega) h3).mpr ⟨h1, h2⟩⟩
theorem ntT {P : Prop} (h : ¬ P) : (¬ P) ↔ True := ⟨fun _ => trivial, fun _ => h⟩
theorem va_rf_s (a : Nat) : va_rf (some a) = .ref a := rfl
def bz (c : Bool) : Int32 := if c = true then w 1 else w 0
theorem bz_t : bz true = w 1 := rfl
theorem bz_f : bz false = w 0 := rfl
theorem bz_0 {c : Bool} : (bz c = w 0) = (c = false) := by cases c <;> simp [bz] <;> decide
theorem bz_1 {c : Bool} : (bz c = w 1) = (c = true) := by cases c <;> simp [bz] <;> decide
theorem bz_ok {c : Bool} : (bz c = w 0 ∨ bz c = w 1) = True := by cases c <;> simp [bz]
theorem bb_ok {c : Bool} : (c = false ∨ c = true) = True := by cases c <;> simp

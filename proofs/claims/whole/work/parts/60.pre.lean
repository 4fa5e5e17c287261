/-! PURE: numbers, searches -/
theorem q_lt {a b : Nat} (ha : a < 2147483648) (hb : b < 2147483648) : (nI a < nI b) = (a < b) := propext (nI_ltI ha hb)
theorem q_le {a b : Nat} (ha : a < 2147483648) (hb : b < 2147483648) : (nI a ≤ nI b) = (a ≤ b) := propext (nI_leI ha hb)
theorem q_eq {a b : Nat} (ha : a < 2147483648) (hb : b < 2147483648) : (nI a = nI b) = (a = b) := propext (nI_eq ha hb)
theorem q_l0 {a : Nat} (ha : a < 2147483648) : (nI a < 0) = False := eq_false (nI_pos ha)
theorem q_0l {a : Nat} (ha : a < 2147483648) : (0 ≤ nI a) = True := eq_true (nI_pos' ha)
theorem q_e1 {a : Nat} (ha : a < 2147483648) : (nI a = -1) = False := by
  refine eq_false fun h => ?_
  have h1 := congrArg Int32.toInt h
  rw [nI_toInt ha] at h1
  have h2 : (-1 : Int32).toInt = -1 := by decide
  rw [h2] at h1
  omega
theorem q_s (a : Nat) : nI a + 1 = nI (a + 1) := nI_1 a
theorem q_p {a : Nat} (h : 0 < a) : nI a - 1 = nI (a - 1) := by
  obtain ⟨b, rfl⟩ : ∃ b, a = b + 1 := ⟨a - 1, by omega⟩
  exact nI_pred b
/-- x is no number below T -/
def xout (x : Int32) (T : Nat) : Prop := x < 0 ∨ nI T ≤ x
theorem xio (x : Int32) {T : Nat} (hT : T < 2147483648) : xout x T ∨ ∃ j : Nat, j < T ∧ x = nI j := by
  rcases pk_ix x (n := T) hT with h | h | h
  · exact Or.inl (Or.inl h)
  · exact Or.inl (Or.inr h)
  · exact Or.inr h
theorem q_out {x : Int32} {T : Nat} (h : nI T ≤ x) (hT : T < 2147483648) : ¬ x < 0 := by
  intro hx
  rw [Int32.le_iff_toInt_le, nI_toInt hT] at h
  rw [Int32.lt_iff_toInt_lt] at hx
  have : (0 : Int32).toInt = 0 := by decide
  omega
theorem xout_ite {α : Type} {x : Int32} {T : Nat} {a b : α} (h : xout x T) (hT : T < 2147483648) : (if x < 0 then a else if nI T ≤ x then a else b) = a := by
  rcases h with h | h
  · rw [if_pos h]
  · rw [if_neg (q_out h hT), if_pos h]
/-- the first of k numbers from y on that has p; -1: none -/
def ff (p : Nat → Prop) [DecidablePred p] : Nat → Nat → Int32
  | _, 0 => -1
  | y, k + 1 => if p y then nI y else ff p (y + 1) k
theorem q_10 : ((1 : Int32) = 0) = False := by decide
theorem q_m10 : ((-1 : Int32) = 0) = False := by decide
theorem q_00 : ((0 : Int32) = 0) = True := by decide
theorem q_some {α : Type} {c : Prop} [Decidable c] {x y : α} : (if c then some x else some y) = some (if c then x else y) := by by_cases h : c <;> simp [h]
theorem q_pair {α β : Type} {c : Prop} [Decidable c] {x y : α} {z : β} : (if c then (x, z) else (y, z)) = (if c then x else y, z) := by by_cases h : c <;> simp [h]
theorem q_int {c : Prop} [Decidable c] {x y : Int32} : (if c then Value.int x else Value.int y) = Value.int (if c then x else y) := by by_cases h : c <;> simp [h]
theorem rt_up_eq {α : Type} {f : Nat → Nat → α} {i k : Nat} {v : α} : rt_up f i k v i k = v := by simp [rt_up]
theorem rt_up_n1 {α : Type} {f : Nat → Nat → α} {i k a b : Nat} {v : α} (h : a ≠ i) : rt_up f i k v a b = f a b := by simp [rt_up, h]
theorem rt_up_n2 {α : Type} {f : Nat → Nat → α} {i k a b : Nat} {v : α} (h : b ≠ k) : rt_up f i k v a b = f a b := by
  unfold rt_up
  by_cases h1 : a = i <;> simp [h1, h]
theorem rt_row_eq {α : Type} {f : Nat → Nat → α} {i b : Nat} {g : Nat → α} : rt_row f i g i b = g b := by simp [rt_row]
theorem rt_row_n {α : Type} {f : Nat → Nat → α} {i a b : Nat} {g : Nat → α} (h : a ≠ i) : rt_row f i g a b = f a b := by simp [rt_row, h]

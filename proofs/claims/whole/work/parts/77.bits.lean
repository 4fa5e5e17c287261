/-! Int32 by its bits (the first rows began as kit/laws/BITS.to-paste) -/
def bt (x : Int32) (i : Nat) : Bool := x.toBitVec.getLsbD i
theorem b_ext {x y : Int32} (h : ∀ i, i < 32 → bt x i = bt y i) : x = y := Int32.toBitVec_inj.mp (BitVec.eq_of_getLsbD_eq (fun i hi => h i hi))
theorem b_or (x y : Int32) (i : Nat) : bt (x ||| y) i = (bt x i || bt y i) := by unfold bt; rw [Int32.toBitVec_or, BitVec.getLsbD_or]
theorem b_and (x y : Int32) (i : Nat) : bt (x &&& y) i = (bt x i && bt y i) := by unfold bt; rw [Int32.toBitVec_and, BitVec.getLsbD_and]
theorem b_xor (x y : Int32) (i : Nat) : bt (x ^^^ y) i = (bt x i ^^ bt y i) := by unfold bt; rw [Int32.toBitVec_xor, BitVec.getLsbD_xor]
theorem b_big {x : Int32} {i : Nat} (h : 32 ≤ i) : bt x i = false := BitVec.getLsbD_of_ge _ _ h
theorem b_m1 : ∀ i, i < 32 → bt (-1) i = true := by decide +kernel
theorem b_0 (i : Nat) : bt 0 i = false := BitVec.getLsbD_zero
theorem s_l : ∀ n, n < 32 → ((nI n &&& 31).toBitVec.smod 32).toNat = n := by decide +kernel
theorem b_shl (n : Nat) (hn : n < 32) (x : Int32) {i : Nat} (hi : i < 32) : bt (x <<< (nI n &&& 31)) i = (decide (n ≤ i) && bt x (i - n)) := by
  unfold bt
  rw [Int32.toBitVec_shiftLeft, BitVec.shiftLeft_eq', s_l n hn, BitVec.getLsbD_shiftLeft]
  by_cases h : i < n
  · simp [h, hi, Nat.not_le.mpr h]
  · simp [h, hi, Nat.not_lt.mp h]
theorem b_sshr (n : Nat) (hn : n < 32) (x : Int32) {i : Nat} (hi : i < 32) : bt (x >>> (nI n &&& 31)) i = if n + i < 32 then bt x (n + i) else bt x 31 := by
  unfold bt
  rw [Int32.toBitVec_shiftRight, BitVec.sshiftRight_eq', s_l n hn, BitVec.getLsbD_sshiftRight]
  by_cases h : n + i < 32
  · simp [h, hi]
  · simp [h, hi, BitVec.msb_eq_getLsbD_last]
theorem b_1 : ∀ i, i < 32 → bt 1 i = decide (i = 0) := by decide +kernel
theorem b_one {n : Nat} (hn : n < 32) {i : Nat} (hi : i < 32) : bt ((1 : Int32) <<< (nI n &&& 31)) i = decide (i = n) := by
  rw [b_shl n hn _ hi, b_1 _ (by omega)]
  by_cases h : i = n
  · simp [h]
  · by_cases h2 : n ≤ i
    · simp [h]; omega
    · simp [h, h2]
/-- bit x of a set, as the programs ask for it -/
theorem b_ask (s : Int32) {x : Nat} (hx : x < 32) : (s >>> (nI x &&& 31)) &&& 1 = if bt s x then 1 else 0 := by
  apply b_ext
  intro i hi
  rw [b_and, b_sshr x hx s hi, b_1 i hi]
  by_cases h : i = 0
  · subst h
    by_cases h2 : bt s x
    · simp [hx, h2, b_1]
    · simp [hx, h2, b_0]
  · by_cases h2 : bt s x
    · simp [h, h2, b_1 i hi]
    · simp [h, h2, b_0]
/-- the set of those below n that have p -/
def bs (p : Nat → Bool) : Nat → Int32
  | 0 => 0
  | n + 1 => if p n then bs p n ||| ((1 : Int32) <<< (nI n &&& 31)) else bs p n
theorem b_bs (p : Nat → Bool) : ∀ n, n ≤ 32 → ∀ i, i < 32 → bt (bs p n) i = (decide (i < n) && p i) := by
  intro n
  induction n with
  | zero => intro _ i _; simp [bs, b_0]
  | succ n ih =>
    intro hn i hi
    unfold bs
    have e := ih (by omega) i hi
    by_cases hp : p n
    · rw [if_pos hp, b_or, e, b_one (by omega) hi]
      by_cases h : i = n
      · subst h; simp [hp]
      · have : (i < n + 1) = (i < n) := propext ⟨fun _ => by omega, fun _ => by omega⟩
        simp [h, this]
    · rw [if_neg hp, e]
      by_cases h : i = n
      · subst h; simp [hp]
      · have : (i < n + 1) = (i < n) := propext ⟨fun _ => by omega, fun _ => by omega⟩
        simp [this]
theorem bs_congr {p q : Nat → Bool} {n : Nat} (hn : n ≤ 32) (h : ∀ x, x < n → p x = q x) : bs p n = bs q n := by
  apply b_ext
  intro i hi
  rw [b_bs p n hn i hi, b_bs q n hn i hi]
  by_cases h2 : i < n
  · simp [h2, h i h2]
  · simp [h2]
theorem bs_of {s : Int32} {p : Nat → Bool} {n : Nat} (hn : n ≤ 32) (h : ∀ x, x < 32 → bt s x = (decide (x < n) && p x)) : s = bs p n := by
  apply b_ext
  intro i hi
  rw [b_bs p n hn i hi, h i hi]
theorem bs_ask {p : Nat → Bool} {n x : Nat} (hn : n ≤ 32) (hx : x < 32) : (bs p n >>> (nI x &&& 31)) &&& 1 = if x < n ∧ p x = true then 1 else 0 := by
  rw [b_ask _ hx, b_bs p n hn x hx]
  by_cases h : x < n
  · by_cases h2 : p x <;> simp [h, h2]
  · simp [h]
theorem bs_none {p : Nat → Bool} {n : Nat} (h : ∀ x, x < n → p x = false) : bs p n = 0 := by
  induction n with
  | zero => rfl
  | succ n ih =>
    unfold bs
    rw [h n (by omega)]
    exact ih (fun x hx => h x (by omega))
theorem bs_z {p : Nat → Bool} {n : Nat} (hn : n ≤ 32) : bs p n = 0 ↔ ∀ x, x < n → p x = false := by
  constructor
  · intro h x hx
    have := b_bs p n hn x (by omega)
    rw [h, b_0] at this
    simp [hx] at this
    exact this
  · exact bs_none
/-- how many below n have p -/
def cn (p : Nat → Bool) : Nat → Nat
  | 0 => 0
  | n + 1 => if p n then cn p n + 1 else cn p n
theorem cn_le (p : Nat → Bool) : ∀ n, cn p n ≤ n := by
  intro n
  induction n with
  | zero => exact Nat.le_refl 0
  | succ n ih => unfold cn; split <;> omega
theorem cn_congr {p q : Nat → Bool} : ∀ {n : Nat}, (∀ x, x < n → p x = q x) → cn p n = cn q n := by
  intro n
  induction n with
  | zero => intro _; rfl
  | succ n ih =>
    intro h
    unfold cn
    rw [h n (by omega), ih (fun x hx => h x (by omega))]
theorem cn_z {p : Nat → Bool} : ∀ {n : Nat}, cn p n = 0 ↔ ∀ x, x < n → p x = false := by
  intro n
  induction n with
  | zero => exact ⟨fun _ x hx => by omega, fun _ => rfl⟩
  | succ n ih =>
    unfold cn
    by_cases hp : p n
    · rw [if_pos hp]
      constructor
      · intro h; omega
      · intro h; rw [h n (by omega)] at hp; cases hp
    · rw [if_neg hp, ih]
      constructor
      · intro h x hx
        by_cases hx2 : x = n
        · subst hx2; simpa using hp
        · exact h x (by omega)
      · intro h x hx; exact h x (by omega)
/-- beyond n nothing has p -/
theorem cn_far {p : Nat → Bool} {n : Nat} (h : ∀ x, n ≤ x → p x = false) : ∀ k, cn p (n + k) = cn p n := by
  intro k
  induction k with
  | zero => rfl
  | succ k ih =>
    show (if p (n + k) then cn p (n + k) + 1 else cn p (n + k)) = _
    rw [h (n + k) (by omega), if_neg (by decide), ih]
/-- the only one -/
theorem cn_1 {p : Nat → Bool} : ∀ {n : Nat}, cn p n = 1 → ∃ j, j < n ∧ p j = true ∧ ∀ x, x < n → p x = true → x = j := by
  intro n
  induction n with
  | zero => intro h; cases h
  | succ n ih =>
    unfold cn
    by_cases hp : p n
    · rw [if_pos hp]
      intro h
      have h0 : cn p n = 0 := by omega
      rw [cn_z] at h0
      refine ⟨n, by omega, hp, fun x hx hx2 => ?_⟩
      by_cases e : x = n
      · exact e
      · rw [h0 x (by omega)] at hx2; cases hx2
    · rw [if_neg hp]
      intro h
      obtain ⟨j, hj, h1, h2⟩ := ih h
      refine ⟨j, by omega, h1, fun x hx hx2 => ?_⟩
      by_cases e : x = n
      · subst e; exact absurd hx2 hp
      · exact h2 x (by omega) hx2

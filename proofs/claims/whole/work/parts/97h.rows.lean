section P61
variable {O j k i p q m c n o f g B s : Nat} {dg dh K : Nat → Nat} {pl h : Bool} {W : List (Nat → Nat)} {x y : Int32}
/-- which NPs are open to the next onward -/
def syO (dg : Nat → Nat) : Nat → Nat → Bool
  | 0, p => decide (p = 0)
  | i + 1, p => decide (p = i + 1) || (decide (p < dg i) && syO dg i p)
theorem syO_gt : ∀ {O : Nat}, O < p → syO dg O p = false := by
  intro O
  induction O with
  | zero => intro h; rw [syO]; exact decide_eq_false (by omega)
  | succ i ih => intro h; rw [syO, decide_eq_false (by omega), ih (by omega), Bool.and_false] <;> rfl
theorem syO_self : syO dg O O = true := by
  cases O with
  | zero => rfl
  | succ i => rw [syO, decide_eq_true rfl] <;> rfl
theorem syO_le (h : syO dg O p = true) : p ≤ O := by
  by_cases g : O < p
  · rw [syO_gt g] at h; cases h
  · omega
theorem syO_congr : ∀ {O : Nat}, (∀ i, i < O → dg i = dh i) → syO dg O p = syO dh O p := by
  intro O
  induction O with
  | zero => intro _; rfl
  | succ i ih => intro h; rw [syO, syO, ih (fun j hj => h j (by omega)), h i (by omega)]
theorem syO_down : ∀ {O : Nat}, syO dg O q = true → p ≤ q → syO dg O p = syO dg q p := by
  intro O
  induction O with
  | zero =>
    intro h hp
    have := syO_le h
    rw [show q = 0 by omega]
  | succ i ih =>
    intro h hp
    by_cases e : q = i + 1
    · rw [e]
    · rw [syO, decide_eq_false e, Bool.false_or, Bool.and_eq_true, decide_eq_true_iff] at h
      have := syO_le h.2
      rw [syO, decide_eq_false (by omega), decide_eq_true (show p < dg i by omega), Bool.false_or, Bool.true_and, ih h.2 hp]
theorem syO_0 : ∀ {O : Nat}, syO dg O 0 = true ↔ ∀ i, i < O → dg i ≠ 0 := by
  intro O
  induction O with
  | zero => exact ⟨fun _ i hi => by omega, fun _ => rfl⟩
  | succ n ih =>
    rw [syO, decide_eq_false (by omega), Bool.false_or, Bool.and_eq_true, decide_eq_true_iff, ih]
    constructor
    · rintro ⟨h1, h2⟩ i hi
      by_cases e : i = n
      · subst e; omega
      · exact h2 i (by omega)
    · intro h
      exact ⟨Nat.pos_of_ne_zero (h n (by omega)), fun i hi => h i (by omega)⟩
/-- a row that can stand -/
def syV (K : Nat → Nat) (O : Nat) (dg : Nat → Nat) : Prop := ∀ i, i < O → dg i ≤ i + 1 ∧ ∀ k, dg i = k + 1 → syO dg i k = true ∧ 2 ≤ K k
def syU (dg : Nat → Nat) (O o : Nat) : Nat → Nat := fun i => if i = O then o else dg i
theorem syU_s : syU dg O o O = o := if_pos rfl
theorem syU_n (h : i ≠ O) : syU dg O o i = dg i := if_neg h
theorem syU_O : syO (syU dg O o) O p = syO dg O p := syO_congr (fun i hi => syU_n (by omega))
theorem syU_S : syO (syU dg O o) (O + 1) p = (decide (p = O + 1) || (decide (p < o) && syO dg O p)) := by rw [syO, syU_s, syU_O]
/-- a row's digits as one number -/
def syH (B : Nat) (dg : Nat → Nat) : Nat → Nat
  | 0 => 0
  | i + 1 => syH B dg i * B + dg i
theorem syH_congr : ∀ {O : Nat}, (∀ i, i < O → dg i = dh i) → syH B dg O = syH B dh O := by
  intro O
  induction O with
  | zero => intro _; rfl
  | succ i ih => intro h; rw [syH, syH, ih (fun j hj => h j (by omega)), h i (by omega)]
theorem syH_U : syH B (syU dg O o) (O + 1) = syH B dg O * B + o := by rw [syH, syU_s, syH_congr (fun i hi => syU_n (by omega))]
theorem syH_lt : ∀ {O : Nat}, (∀ i, i < O → dg i < B) → syH B dg O < B ^ O := by
  intro O
  induction O with
  | zero => intro _; exact Nat.one_pos
  | succ i ih =>
    intro h
    have h1 := ih (fun j hj => h j (by omega))
    have h2 := h i (by omega)
    rw [syH, Nat.pow_succ]
    have h3 : (syH B dg i + 1) * B ≤ B ^ i * B := Nat.mul_le_mul_right _ h1
    rw [Nat.add_mul, Nat.one_mul] at h3
    omega
theorem syH_dig : ∀ {O : Nat}, (∀ i, i < O → dg i < B) → i < O → syH B dg O / B ^ (O - 1 - i) % B = dg i := by
  intro O
  induction O with
  | zero => intro _ h; omega
  | succ n ih =>
    intro h hi
    have hn := h n (by omega)
    by_cases e : i = n
    · subst e
      rw [show i + 1 - 1 - i = 0 by omega, Nat.pow_zero, Nat.div_one, syH, Nat.mul_add_mod', Nat.mod_eq_of_lt hn]
    · rw [show n + 1 - 1 - i = (n - 1 - i) + 1 by omega, Nat.pow_succ, Nat.mul_comm, ← Nat.div_div_eq_div_mul, syH, Nat.add_comm (syH B dg n * B), Nat.add_mul_div_right _ _ (by omega), Nat.div_eq_of_lt hn, Nat.zero_add]
      exact ih (fun j hj => h j (by omega)) (by omega)
def enX (O : Nat) (dg : Nat → Nat) : Int32 := nI (syH 16 dg O * 16 ^ (6 - O))
def enM (O : Nat) (dg : Nat → Nat) : Int32 := nI (syH 8 dg O)
def enO (O : Nat) (dg : Nat → Nat) : Int32 := bs (syO dg O) 8
def enP (O : Nat) (dg : Nat → Nat) : Int32 := b01 (!syO dg O 0)
theorem pw16 (h : O ≤ 6) : 16 ^ O * 16 ^ (6 - O) = 16777216 := by rw [← Nat.pow_add, show O + (6 - O) = 6 by omega]
theorem syH_16 (h6 : O ≤ 6) (hd : ∀ i, i < O → dg i < 16) : syH 16 dg O * 16 ^ (6 - O) < 16777216 := by
  rw [← pw16 h6]
  exact Nat.mul_lt_mul_of_pos_right (syH_lt hd) (Nat.pow_pos (by decide))
theorem sh20 : ∀ i, i < 6 → (((20 - 4 * nI i) &&& 31).toBitVec.smod 32).toNat = 20 - 4 * i := by decide +kernel
theorem pw4 (m : Nat) : 2 ^ (4 * m) = 16 ^ m := Nat.pow_mul 2 4 m
theorem enX_DX (h6 : O ≤ 6) (hd : ∀ i, i < O → dg i < 16) : DX (enX O dg) O dg := by
  intro i hi
  have h1 := syH_16 h6 hd
  unfold enX
  rw [pk_shrN (by omega) _ _ (sh20 i (by omega)), pk_andN (Nat.lt_of_le_of_lt (Nat.div_le_self _ _) (by omega)) 4 (by decide)]
  congr 1
  rw [show 20 - 4 * i = 4 * (5 - i) by omega, pw4, show 5 - i = (O - 1 - i) + (6 - O) by omega, Nat.pow_add, Nat.mul_div_mul_right _ _ (Nat.pow_pos (by decide))]
  exact syH_dig hd hi
theorem bt_nI {n i : Nat} (hi : i < 32) : bt (nI n) i = n.testBit i := by
  unfold bt
  show (BitVec.ofNat 32 n).getLsbD i = _
  rw [BitVec.getLsbD_ofNat]
  simp [hi]
theorem nI_or (a b : Nat) : nI a ||| nI b = nI (a ||| b) := by
  apply b_ext
  intro i hi
  rw [b_or, bt_nI hi, bt_nI hi, bt_nI hi, Nat.testBit_or]
theorem enX_s (h5 : O ≤ 5) (ho : o < 16) : enX O dg ||| (nI o <<< ((20 - 4 * nI O) &&& 31)) = enX (O + 1) (syU dg O o) := by
  have e1 : 16 ^ (5 - O) ≤ 16 ^ 5 := Nat.pow_le_pow_right (by decide) (by omega)
  have e2 : o * 16 ^ (5 - O) < 16 * 16 ^ (5 - O) := Nat.mul_lt_mul_of_pos_right ho (Nat.pow_pos (by decide))
  have e5 : (16 : Nat) ^ 5 = 1048576 := by decide
  have e3 : 16 ^ (6 - O) = 16 * 16 ^ (5 - O) := by rw [show 6 - O = (5 - O) + 1 by omega, Nat.pow_succ, Nat.mul_comm]
  have e0 : 0 < 16 ^ (5 - O) := Nat.pow_pos (by decide)
  have hz : 2 ^ (4 * (6 - O)) = 16 * 16 ^ (5 - O) := by rw [pw4, e3]
  have hor := Nat.two_pow_add_eq_or_of_lt (i := 4 * (6 - O)) (b := o * 16 ^ (5 - O)) (by rw [hz]; exact e2) (syH 16 dg O)
  rw [hz] at hor
  have h20 : 2 ^ (20 - 4 * O) = 16 ^ (5 - O) := by rw [show 20 - 4 * O = 4 * (5 - O) by omega, pw4]
  unfold enX
  rw [pk_shlN _ _ (sh20 O (by omega)) (by rw [h20]; omega), nI_or, syH_U, h20, show 6 - (O + 1) = 5 - O by omega, e3]
  congr 1
  rw [Nat.mul_comm (syH 16 dg O) (16 * 16 ^ (5 - O)), ← hor, Nat.add_mul]
  congr 1
  rw [Nat.mul_comm (16 * 16 ^ (5 - O)) (syH 16 dg O), Nat.mul_assoc]
theorem pw3 (m : Nat) : 2 ^ (3 * m) = 8 ^ m := Nat.pow_mul 2 3 m
theorem enM_DM (h6 : O ≤ 6) (hd : ∀ i, i < O → dg i < 8) : DM (enM O dg) O dg := by
  intro i hi
  have h1 := syH_lt hd
  have h2 : 8 ^ O ≤ 8 ^ 6 := Nat.pow_le_pow_right (by decide) h6
  have e6 : (8 : Nat) ^ 6 = 262144 := by decide
  unfold enM
  rw [q_p (by omega), q_sub (by omega), show (3 : Int32) = nI 3 from rfl, pk_mul, pk_shrN (by omega) _ _ (s_l _ (by omega)), pk_andN (Nat.lt_of_le_of_lt (Nat.div_le_self _ _) (by omega)) 3 (by decide)]
  congr 1
  rw [pw3]
  exact syH_dig hd hi
theorem enM_s : enM O dg * 8 + 1 + nI p = enM (O + 1) (syU dg O (p + 1)) := by
  unfold enM
  rw [show (8 : Int32) = nI 8 from rfl, pk_mul, q_s, nI_add, syH_U]
  congr 1
  omega
theorem enM_0 : enM O dg * 8 = enM (O + 1) (syU dg O 0) := by
  unfold enM
  rw [show (8 : Int32) = nI 8 from rfl, pk_mul, syH_U]
  rfl
theorem msk2 : ∀ p, p < 6 → ∀ i, i < 32 → bt (((2 : Int32) <<< (nI p &&& 31)) - 1) i = decide (i ≤ p) := by decide +kernel
theorem enO_s (h5 : O ≤ 5) (hp : syO dg O p = true) : (enO O dg &&& (((2 : Int32) <<< (nI p &&& 31)) - 1)) ||| ((1 : Int32) <<< (nI (O + 1) &&& 31)) = enO (O + 1) (syU dg O (p + 1)) := by
  have hpO := syO_le hp
  unfold enO
  apply b_ext
  intro i hi
  rw [b_or, b_and, b_bs _ _ (by decide) i hi, msk2 p (by omega) i hi, b_one (by omega) hi, b_bs _ _ (by decide) i hi, syU_S]
  by_cases e : i = O + 1
  · rw [decide_eq_true e, decide_eq_true (show i < 8 by omega)]
    simp
  · rw [decide_eq_false e]
    by_cases e2 : i ≤ p
    · rw [decide_eq_true e2, decide_eq_true (show i < p + 1 by omega)]
      simp
    · rw [decide_eq_false e2, decide_eq_false (show ¬ i < p + 1 by omega)]
      simp
theorem enO_0 (h5 : O ≤ 5) : ((1 : Int32) <<< (nI (O + 1) &&& 31)) = enO (O + 1) (syU dg O 0) := by
  unfold enO
  apply b_ext
  intro i hi
  rw [b_one (by omega) hi, b_bs _ _ (by decide) i hi, syU_S]
  by_cases e : i = O + 1
  · rw [decide_eq_true e, decide_eq_true (show i < 8 by omega)]
    simp
  · rw [decide_eq_false e]
    simp
theorem enP_s : enP (O + 1) (syU dg O (p + 1)) = enP O dg := by
  unfold enP
  rw [syU_S, decide_eq_false (by omega), decide_eq_true (by omega), Bool.false_or, Bool.true_and]
theorem enP_0 : enP (O + 1) (syU dg O 0) = 1 := by
  unfold enP
  rw [syU_S, decide_eq_false (by omega), decide_eq_false (by omega)]
  rfl
/-- may the next onward belong there: 0 as place, 1 + k to NP k -/
def syT (K : Nat → Nat) (pl : Bool) (O : Nat) (dg : Nat → Nat) : Nat → Bool
  | 0 => pl && syO dg O 0
  | k + 1 => syO dg O k && decide (2 ≤ K k)
theorem syT_big (h : O + 1 < o) : syT K pl O dg o = false := by
  cases o with
  | zero => omega
  | succ k => rw [syT, syO_gt (by omega)] <;> rfl
/-- the rows that come of a row: by f owners from o on -/
def syE (K : Nat → Nat) (pl : Bool) (O : Nat) (dg : Nat → Nat) : Nat → Nat → List (Nat → Nat)
  | _, 0 => []
  | o, f + 1 => if syT K pl O dg o = true then syU dg O o :: syE K pl O dg (o + 1) f else syE K pl O dg (o + 1) f
theorem syE_nil : ∀ {f o : Nat}, O + 1 < o → syE K pl O dg o f = [] := by
  intro f
  induction f with
  | zero => intro o _; rfl
  | succ f ih => intro o h; rw [syE, syT_big h, if_neg (by simp), ih (by omega)]
theorem syE_cut : ∀ {f g o : Nat}, o + f = O + 2 → f ≤ g → syE K pl O dg o g = syE K pl O dg o f := by
  intro f
  induction f with
  | zero => intro g o h _; rw [syE_nil (by omega)] <;> rfl
  | succ f ih =>
    intro g o h hg
    obtain ⟨g', rfl⟩ : ∃ g', g = g' + 1 := ⟨g - 1, by omega⟩
    rw [syE, syE, ih (by omega) (by omega)]
theorem syE_mem : ∀ {f o : Nat} {d : Nat → Nat}, d ∈ syE K pl O dg o f → ∃ o', o ≤ o' ∧ o' < o + f ∧ syT K pl O dg o' = true ∧ d = syU dg O o' := by
  intro f
  induction f with
  | zero => intro o d h; exact absurd h (by rw [syE]; exact List.not_mem_nil)
  | succ f ih =>
    intro o d h
    rw [syE] at h
    by_cases hT : syT K pl O dg o = true
    · rw [if_pos hT, List.mem_cons] at h
      rcases h with h | h
      · exact ⟨o, by omega, by omega, hT, h⟩
      · obtain ⟨o', h1, h2, h3⟩ := ih h
        exact ⟨o', by omega, by omega, h3⟩
    · rw [if_neg hT] at h
      obtain ⟨o', h1, h2, h3⟩ := ih h
      exact ⟨o', by omega, by omega, h3⟩
theorem syE_V {d : Nat → Nat} (hV : syV K O dg) (h : d ∈ syE K pl O dg o f) : syV K (O + 1) d ∧ (d O = 0 → pl = true) ∧ ∀ i, i < O → d i = dg i := by
  obtain ⟨o', -, -, hT, rfl⟩ := syE_mem h
  refine ⟨fun i hi => ?_, fun h0 => ?_, fun i hi => syU_n (by omega)⟩
  · by_cases e : i = O
    · subst e
      rw [syU_s]
      refine ⟨?_, fun k hk => ?_⟩
      · by_cases h2 : i + 1 < o'
        · rw [syT_big h2] at hT; cases hT
        · omega
      · subst hk
        rw [syT, Bool.and_eq_true, decide_eq_true_iff] at hT
        rw [syU_O]
        exact hT
    · rw [syU_n e]
      obtain ⟨h1, h2⟩ := hV i (by omega)
      refine ⟨h1, fun k hk => ?_⟩
      rw [syO_congr (fun j hj => syU_n (by omega))]
      exact h2 k hk
  · rw [syU_s] at h0
    subst h0
    rw [syT, Bool.and_eq_true] at hT
    exact hT.1
def syW (K : Nat → Nat) (pl : Bool) (O : Nat) (W : List (Nat → Nat)) : List (Nat → Nat) := W.flatMap (fun dg => syE K pl O dg 0 7)
/-- how many rows may come of one -/
def sySm (f : Nat → Nat) : Nat → Nat
  | 0 => 0
  | c + 1 => sySm f c + f (c + 2)
def syN : Nat → Bool → Nat → Nat
  | 0, _, _ => 1
  | m + 1, h, c => sySm (syN m h) c + (if h = true then 0 else syN m true 1)
def syP (m O : Nat) (dg : Nat → Nat) : Nat := syN m (!syO dg O 0) (cn (syO dg O) (O + 1))
theorem syN_pos : ∀ {m c : Nat}, 0 < c → 0 < syN m h c := by
  intro m
  induction m with
  | zero => intro c _; exact Nat.one_pos
  | succ m ih =>
    intro c hc
    obtain ⟨d, rfl⟩ : ∃ d, c = d + 1 := ⟨c - 1, by omega⟩
    rw [syN, sySm]
    have := ih (show 0 < d + 2 by omega)
    omega
theorem cn_pos {V : Nat → Bool} : ∀ {n : Nat}, k < n → V k = true → 0 < cn V n := by
  intro n
  induction n with
  | zero => intro h; omega
  | succ n ih =>
    intro h hv
    rw [cn]
    by_cases e : k = n
    · subst e; rw [if_pos hv]; omega
    · have := ih (by omega) hv
      split <;> omega
theorem cn_ext {V : Nat → Bool} : ∀ {d : Nat}, (∀ k, n ≤ k → V k = false) → cn V (n + d) = cn V n := by
  intro d
  induction d with
  | zero => intro _; rfl
  | succ d ih => intro h; rw [← Nat.add_assoc, cn, h _ (by omega), if_neg (by simp), ih h]
theorem syP_pos : 0 < syP m O dg := syN_pos (cn_pos (k := O) (by omega) syO_self)
theorem cn_S (h : p ≤ O) (hp : syO dg O p = true) : cn (syO (syU dg O (p + 1)) (O + 1)) (O + 2) = cn (syO dg O) p + 2 := by
  have h1 : cn (syO (syU dg O (p + 1)) (O + 1)) (O + 1) = cn (fun i => decide (i < p + 1) && syO dg O i) (O + 1) := cn_congr (fun i hi => by rw [syU_S, decide_eq_false (by omega), Bool.false_or])
  have h2 : cn (fun i => decide (i < p + 1) && syO dg O i) (O + 1) = cn (fun i => decide (i < p + 1) && syO dg O i) (p + 1) := by
    rw [show O + 1 = (p + 1) + (O - p) by omega]
    refine cn_ext (fun k hk => ?_)
    show (decide (k < p + 1) && syO dg O k) = false
    rw [decide_eq_false (by omega), Bool.false_and]
  have h3 : cn (fun i => decide (i < p + 1) && syO dg O i) (p + 1) = cn (fun i => decide (i < p + 1) && syO dg O i) p + 1 := by
    rw [cn, if_pos (by simp [hp])]
  have h4 : cn (fun i => decide (i < p + 1) && syO dg O i) p = cn (syO dg O) p := cn_congr (fun i hi => by
    show (decide (i < p + 1) && syO dg O i) = _
    rw [decide_eq_true (show i < p + 1 by omega), Bool.true_and])
  have h5 : cn (syO (syU dg O (p + 1)) (O + 1)) (O + 2) = cn (syO (syU dg O (p + 1)) (O + 1)) (O + 1) + 1 := by
    rw [cn, if_pos (by rw [syU_S, decide_eq_true rfl, Bool.true_or])]
  omega
theorem cn_Z : cn (syO (syU dg O 0) (O + 1)) (O + 2) = 1 := by
  have h5 : cn (syO (syU dg O 0) (O + 1)) (O + 2) = cn (syO (syU dg O 0) (O + 1)) (O + 1) + 1 := by
    rw [cn, if_pos (by rw [syU_S, decide_eq_true rfl, Bool.true_or])]
  have h6 : cn (syO (syU dg O 0) (O + 1)) (O + 1) = 0 := cn_z.mpr (fun i hi => by rw [syU_S, decide_eq_false (by omega), decide_eq_false (by omega), Bool.false_and, Bool.false_or])
  omega
theorem syP_l : ∀ f k, sySm (syN m (!syO dg O 0)) (cn (syO dg O) k) + ((syE K pl O dg (k + 1) f).map (syP m (O + 1))).sum ≤ sySm (syN m (!syO dg O 0)) (cn (syO dg O) (k + f)) := by
  intro f
  induction f with
  | zero => intro k; rw [syE]; exact Nat.le_refl _
  | succ f ih =>
    intro k
    have hi := ih (k + 1)
    have hc : cn (syO dg O) (k + 1) = if syO dg O k = true then cn (syO dg O) k + 1 else cn (syO dg O) k := rfl
    rw [show k + 1 + f = k + (f + 1) by omega, hc] at hi
    have hE : syE K pl O dg (k + 1) (f + 1) = if syT K pl O dg (k + 1) = true then syU dg O (k + 1) :: syE K pl O dg (k + 1 + 1) f else syE K pl O dg (k + 1 + 1) f := rfl
    rw [hE]
    by_cases hO : syO dg O k = true
    · have hs : sySm (syN m (!syO dg O 0)) (cn (syO dg O) k + 1) = sySm (syN m (!syO dg O 0)) (cn (syO dg O) k) + syN m (!syO dg O 0) (cn (syO dg O) k + 2) := rfl
      rw [if_pos hO, hs] at hi
      by_cases hT : syT K pl O dg (k + 1) = true
      · rw [if_pos hT, List.map_cons, List.sum_cons]
        have hP : syP m (O + 1) (syU dg O (k + 1)) = syN m (!syO dg O 0) (cn (syO dg O) k + 2) := by
          unfold syP
          rw [cn_S (syO_le hO) hO, syU_S, decide_eq_false (by omega), decide_eq_true (by omega), Bool.false_or, Bool.true_and]
        rw [hP]
        omega
      · rw [if_neg hT]
        omega
    · rw [if_neg hO] at hi
      have hT : ¬ syT K pl O dg (k + 1) = true := by rw [syT]; simp [hO]
      rw [if_neg hT]
      exact hi
theorem syP_s (h5 : O ≤ 5) : ((syE K pl O dg 0 7).map (syP m (O + 1))).sum ≤ syP (m + 1) O dg := by
  have h1 := syP_l (dg := dg) (O := O) (K := K) (pl := pl) (m := m) 6 0
  have h2 : cn (syO dg O) (0 + 6) = cn (syO dg O) (O + 1) := by
    rw [show 0 + 6 = (O + 1) + (5 - O) by omega]
    exact cn_ext (fun k hk => syO_gt (by omega))
  have h3 : sySm (syN m (!syO dg O 0)) (cn (syO dg O) 0) = 0 := rfl
  rw [h3, h2, Nat.zero_add] at h1
  have hP : syP (m + 1) O dg = sySm (syN m (!syO dg O 0)) (cn (syO dg O) (O + 1)) + (if (!syO dg O 0) = true then 0 else syN m true 1) := rfl
  have hE : syE K pl O dg 0 7 = if syT K pl O dg 0 = true then syU dg O 0 :: syE K pl O dg (0 + 1) 6 else syE K pl O dg (0 + 1) 6 := rfl
  rw [hE, hP]
  by_cases hT : syT K pl O dg 0 = true
  · rw [if_pos hT, List.map_cons, List.sum_cons]
    rw [syT, Bool.and_eq_true] at hT
    have e1 : syO (syU dg O 0) (O + 1) 0 = false := by rw [syU_S, decide_eq_false (by omega), decide_eq_false (by omega), Bool.false_and, Bool.false_or]
    have e2 : syP m (O + 1) (syU dg O 0) = syN m true 1 := by unfold syP; rw [cn_Z, e1] <;> rfl
    have e3 : (if (!syO dg O 0) = true then 0 else syN m true 1) = syN m true 1 := by rw [hT.2] <;> rfl
    rw [e2, e3]
    omega
  · rw [if_neg hT]
    omega
theorem syW_sum (h5 : O ≤ 5) : ((syW K pl O W).map (syP m (O + 1))).sum ≤ (W.map (syP (m + 1) O)).sum := by
  unfold syW
  induction W with
  | nil => exact Nat.le_refl _
  | cons d W ih =>
    rw [List.flatMap_cons, List.map_append, List.sum_append, List.map_cons, List.sum_cons]
    have := syP_s (dg := d) (K := K) (pl := pl) (m := m) h5
    omega
theorem sum_filter {F : (Nat → Nat) → Nat} {P : (Nat → Nat) → Bool} : ((W.filter P).map F).sum ≤ (W.map F).sum := by
  induction W with
  | nil => exact Nat.le_refl _
  | cons d W ih =>
    rw [List.filter_cons, List.map_cons, List.sum_cons]
    split
    · rw [List.map_cons, List.sum_cons]; omega
    · omega
theorem sum_len : W.length ≤ (W.map (syP m O)).sum := by
  induction W with
  | nil => exact Nat.le_refl _
  | cons d W ih =>
    rw [List.length_cons, List.map_cons, List.sum_cons]
    have := syP_pos (m := m) (O := O) (dg := d)
    omega
theorem syP_6 : syP 6 0 dg = 264 := by
  unfold syP
  rw [show syO dg 0 0 = true from rfl, show cn (syO dg 0) (0 + 1) = 1 from rfl]
  decide
end P61

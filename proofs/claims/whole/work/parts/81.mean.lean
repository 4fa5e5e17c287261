/-! MEANING, pure: sets by predicates -/
def exb (p : Nat → Bool) : Nat → Bool
  | 0 => false
  | n + 1 => exb p n || p n
def alb (p : Nat → Bool) : Nat → Bool
  | 0 => true
  | n + 1 => alb p n && p n
theorem exb_iff {p : Nat → Bool} : ∀ {n : Nat}, exb p n = true ↔ ∃ i, i < n ∧ p i = true := by
  intro n
  induction n with
  | zero => exact ⟨fun h => absurd h (by simp [exb]), fun ⟨i, hi, _⟩ => by omega⟩
  | succ n ih =>
    unfold exb
    rw [Bool.or_eq_true, ih]
    constructor
    · rintro (⟨i, hi, h⟩ | h)
      · exact ⟨i, by omega, h⟩
      · exact ⟨n, by omega, h⟩
    · rintro ⟨i, hi, h⟩
      by_cases e : i = n
      · subst e; exact Or.inr h
      · exact Or.inl ⟨i, by omega, h⟩
theorem alb_iff {p : Nat → Bool} : ∀ {n : Nat}, alb p n = true ↔ ∀ i, i < n → p i = true := by
  intro n
  induction n with
  | zero => exact ⟨fun _ i hi => by omega, fun _ => rfl⟩
  | succ n ih =>
    unfold alb
    rw [Bool.and_eq_true, ih]
    constructor
    · rintro ⟨h1, h2⟩ i hi
      by_cases e : i = n
      · subst e; exact h2
      · exact h1 i (by omega)
    · intro h
      exact ⟨fun i hi => h i (by omega), h n (by omega)⟩
theorem exb_congr {p q : Nat → Bool} {n : Nat} (h : ∀ i, i < n → p i = q i) : exb p n = exb q n := by
  rw [Bool.eq_iff_iff, exb_iff, exb_iff]
  exact ⟨fun ⟨i, hi, hp⟩ => ⟨i, hi, by rw [← h i hi]; exact hp⟩, fun ⟨i, hi, hp⟩ => ⟨i, hi, by rw [h i hi]; exact hp⟩⟩
theorem alb_congr {p q : Nat → Bool} {n : Nat} (h : ∀ i, i < n → p i = q i) : alb p n = alb q n := by
  rw [Bool.eq_iff_iff, alb_iff, alb_iff]
  exact ⟨fun hh i hi => by rw [← h i hi]; exact hh i hi, fun hh i hi => by rw [h i hi]; exact hh i hi⟩
/-- a phrase: ((NPs, onwards), kinds (0 it, 1 that, 2 the, 3 a, 4 bare), adjectives, nouns, relations) -/
abbrev PhT : Type := (Nat × Nat) × (Nat → Nat) × (Nat → Nat → Bool) × (Nat → Nat) × (Nat → Nat)
def pP (q : PhT) : Nat := q.1.1
def pO (q : PhT) : Nat := q.1.2
def pK (q : PhT) : Nat → Nat := q.2.1
def pL (q : PhT) : Nat → Nat → Bool := q.2.2.1
def pN (q : PhT) : Nat → Nat := q.2.2.2.1
def pR (q : PhT) : Nat → Nat := q.2.2.2.2
/-- the class's number of a kind -/
def ckd (k : Nat) : Int32 := if k = 0 then 23 else if k = 1 then 24 else if k = 2 then 21 else if k = 3 then 22 else -1
/-- the reference's number of a word, by the class's -/
def rwd (c : Nat) : Nat := if c < 5 then c + 24 else if c < 11 then c + 13 else if c < 29 then c - 11 else c + 11
def nnX (q : PhT) (k : Nat) : Int32 := if pK q k < 2 then -1 else nI (pN q k)
def nnM (q : PhT) (k : Nat) : Int32 := if pK q k < 2 then -1 else nI (rwd (pN q k))
/-- the phrase as the class holds it: object p, its four rows behind it -/
def PX (I : Nat → Nat → Int32) (p : Nat) (q : PhT) : Prop :=
  I p 4 = nI (pP q) ∧ I p 5 = nI (pO q) ∧ (∀ k, k < pP q → I (p + 1) k = ckd (pK q k) ∧ I (p + 3) k = nnX q k ∧ ∀ j, j < 6 → bt (I (p + 2) k) (5 + j) = pL q k j) ∧ ∀ i, i < pO q → I (p + 4) i = nI (25 + pR q i)
/-- as the reference holds it, in slot s -/
def PM (I : Nat → Nat → Int32) (s : Nat) (q : PhT) : Prop :=
  I 47 s = nI (pP q) ∧ I 48 s = nI (pO q) ∧ (∀ k, k < pP q → I 49 (7 * s + k) = nI (pK q k) ∧ I 50 (7 * s + k) = nnM q k ∧ ∀ j, j < 6 → bt (I 51 (7 * s + k)) j = pL q k j) ∧ ∀ i, i < pO q → I 52 (6 * s + i) = nI (pR q i)
def PH (n : Nat) (R : Nat → Nat → Option Nat) (p : Nat) : Prop :=
  rt_ob n p 1 = true ∧ R p 0 = some (p + 1) ∧ R p 1 = some (p + 2) ∧ R p 2 = some (p + 3) ∧ R p 3 = some (p + 4) ∧ rt_ar n (p + 1) 1 = true ∧ rt_ar n (p + 2) 1 = true ∧ rt_ar n (p + 3) 1 = true ∧ rt_ar n (p + 4) 1 = true ∧ rt_ln (p + 1) = 7 ∧ rt_ln (p + 2) = 7 ∧ rt_ln (p + 3) = 7 ∧ rt_ln (p + 4) = 6
/-- a phrase that is whole, when nw words are told -/
def wfq (nw : Nat) (q : PhT) : Prop :=
  pP q ≤ 7 ∧ (pP q = pO q + 1 ∨ (pP q = 0 ∧ pO q = 0)) ∧ (∀ k, k < pP q → pK q k < 5 ∧ (2 ≤ pK q k → pN q k < 5 ∨ (29 ≤ pN q k ∧ pN q k < 29 + nw))) ∧ ∀ i, i < pO q → pR q i < 3
/-- the digits of a reading -/
def wfd (q : PhT) (dg : Nat → Nat) : Prop := ∀ i, i < pO q → dg i ≤ i + 1 ∧ ∀ k, dg i = k + 1 → 2 ≤ pK q k
/-- where a thing is, as a number -/
def low (at_ : Nat → Int32) (y : Nat) : Nat := (at_ y).toNatClampNeg
/-- what bears: on, under 0; in 2 -/
def bea (r : Nat) : Int32 := if r = 1 then 2 else 0
def hit (T : Nat) (so at_ : Nat → Int32) (r : Nat) (S : Nat → Bool) (y x : Nat) : Bool :=
  decide (low at_ y < T) && decide (so (low at_ y) = bea r) && (if r = 2 then decide (x = low at_ y) && S y else decide (x = y) && S (low at_ y))
/-- x is on, in (r 0, 1) one of S, or under (2) -/
def lkd (T : Nat) (so at_ : Nat → Int32) (r : Nat) (S : Nat → Bool) (x : Nat) : Bool :=
  if r = 2 then exb (fun y => decide (low at_ y = x) && S y) T && decide (so x = 0) else decide (low at_ x < T) && decide (so (low at_ x) = bea r) && S (low at_ x)
theorem lkd_hit {T : Nat} {so at_ : Nat → Int32} {r : Nat} {S : Nat → Bool} {x : Nat} (hx : x < T) : exb (fun y => hit T so at_ r S y x) T = lkd T so at_ r S x := by
  unfold lkd hit
  by_cases h : r = 2
  · subst h
    have hb : bea 2 = 0 := rfl
    simp only [if_true, hb]
    rw [Bool.eq_iff_iff, exb_iff, Bool.and_eq_true, exb_iff]
    simp only [Bool.and_eq_true, decide_eq_true_eq]
    constructor
    · rintro ⟨y, hy, ⟨h1, h2⟩, h3, h4⟩
      rw [← h3] at h2
      exact ⟨⟨y, hy, h3.symm, h4⟩, h2⟩
    · rintro ⟨⟨y, hy, h1, h2⟩, h3⟩
      refine ⟨y, hy, ⟨by omega, ?_⟩, h1.symm, h2⟩
      rw [h1]
      exact h3
  · simp only [if_neg h]
    rw [Bool.eq_iff_iff, exb_iff]
    simp only [Bool.and_eq_true, decide_eq_true_eq]
    constructor
    · rintro ⟨y, hy, ⟨h1, h2⟩, rfl, h4⟩
      exact ⟨⟨h1, h2⟩, h4⟩
    · rintro ⟨⟨h1, h2⟩, h4⟩
      exact ⟨x, hx, ⟨h1, h2⟩, rfl, h4⟩
theorem low_cases {T y : Nat} {so at_ : Nat → Int32} (hO : RoomOK T so at_) (h16 : T ≤ 16) (hy : y < T) : (xout (at_ y) T ∧ ¬ low at_ y < T ∧ ¬ at_ y < 16) ∨ (low at_ y < T ∧ at_ y = nI (low at_ y) ∧ (so (low at_ y) = 0 ∨ so (low at_ y) = 2)) := by
  have e16 : (16 : Int32) = nI 16 := rfl
  have e17 : (17 : Int32) = nI 17 := rfl
  rcases hO.1 y hy with h | h | ⟨j, hj, h, hs⟩
  · refine Or.inl ⟨Or.inr ?_, ?_, ?_⟩
    · rw [h, e16]; exact nI_le h16 (by omega)
    · unfold low; rw [h, e16, nI_cl (by omega)]; omega
    · rw [h]; decide
  · refine Or.inl ⟨Or.inr ?_, ?_, ?_⟩
    · rw [h, e17]; exact nI_le (by omega) (by omega)
    · unfold low; rw [h, e17, nI_cl (by omega)]; omega
    · rw [h]; decide
  · have e : low at_ y = j := by unfold low; rw [h, nI_cl (by omega)]
    rw [e]
    exact Or.inr ⟨hj, h, hs⟩
/-- has a thing this look: 0 red .. 3 white, 4 big, 5 small -/
def ajf (co si : Nat → Int32) (j x : Nat) : Bool := if j = 4 then decide (5 ≤ si x) else if j = 5 then !decide (5 ≤ si x) else decide (co x = nI j)
def sch (co si : Nat → Int32) (l : Nat → Bool) (n x : Nat) : Bool := alb (fun j => !l j || ajf co si j x) n
/-- what a noun's number means; told words by ts -/
def nsw (so : Nat → Int32) (ts : Nat → Nat → Bool) : Option Nat → Nat → Bool
  | none, _ => false
  | some w, x => if w = 0 then true else if w < 4 then decide (so x = nI (w - 1)) else ts (w - 29) x
/-- the noun itself, one being another -/
def nres (one : Option Nat) (w : Nat) : Option Nat := if w = 4 then one else some w
section P19
variable {e : Nat} {I : Nat → Nat → Int32} {L : Nat → Nat → Int64} {R : Nat → Nat → Option Nat} {a b T j n k p i : Nat} {x : Int32} {q : PhT}
theorem x_kind (hp : PH (71 + e) R p) (hq : PX I p q) (h7 : pP q ≤ 7) (hk : k < pP q) : Ev mX1_kind 0 [.ref p, .int (nI k)] [] (71 + e, I, L, R) = some (some (.int (ckd (pK q k))), (71 + e, I, L, R)) := by
  obtain ⟨o1, r0, r1, r2, r3, a1, a2, a3, a4, l1, l2, l3, l4⟩ := hp
  obtain ⟨q1, q2, q3, q4⟩ := hq
  have h : ¬ pP q ≤ k := by omega
  simp (disch := first | exact rt_bo_0 | exact rt_bo_1 | exact ns_float | exact ns_int | exact ns_ref | assumption | omega | (simp (disch := omega) only [o1, r0, a1, l1, rt_in_nI, Option.isSome_some, Option.getD_some, Bool.or_true, Bool.true_or]; done) | fail) only [e_X1_kind_0, e_X1_kind_1, e_X1_kind_4, e_X1_kind_5, e_X1_kind_6, e_X1_kind_9, e_X1_kind_12, e_X1_kind_13, e_X1_kind_16, e_X1_kind_17, e_X1_kind_18, e_X1_kind_21, e_X1_kind_22, q1, r0, h, (q3 k hk).1, Option.getD_some, Option.bind_some, Option.toList_some, Option.toList_none, List.cons_append, List.nil_append, q_10, q_m10, q_00, q_lt, q_le, q_l0, q_0l, q_e1, q_eq, nI_cl, q_s, if_false, if_true]
theorem x_nounOf (hp : PH (71 + e) R p) (hq : PX I p q) (h7 : pP q ≤ 7) (hk : k < pP q) : Ev mX1_nounOf 0 [.ref p, .int (nI k)] [] (71 + e, I, L, R) = some (some (.int (nnX q k)), (71 + e, I, L, R)) := by
  obtain ⟨o1, r0, r1, r2, r3, a1, a2, a3, a4, l1, l2, l3, l4⟩ := hp
  obtain ⟨q1, q2, q3, q4⟩ := hq
  have h : ¬ pP q ≤ k := by omega
  simp (disch := first | exact rt_bo_0 | exact rt_bo_1 | exact ns_float | exact ns_int | exact ns_ref | assumption | omega | (simp (disch := omega) only [o1, r2, a3, l3, rt_in_nI, Option.isSome_some, Option.getD_some, Bool.or_true, Bool.true_or]; done) | fail) only [e_X1_nounOf_0, e_X1_nounOf_1, e_X1_nounOf_4, e_X1_nounOf_5, e_X1_nounOf_6, e_X1_nounOf_9, e_X1_nounOf_12, e_X1_nounOf_13, e_X1_nounOf_16, e_X1_nounOf_17, e_X1_nounOf_18, e_X1_nounOf_21, e_X1_nounOf_22, q1, r2, h, (q3 k hk).2.1, Option.getD_some, Option.bind_some, Option.toList_some, Option.toList_none, List.cons_append, List.nil_append, q_10, q_m10, q_00, q_lt, q_le, q_l0, q_0l, q_e1, q_eq, nI_cl, q_s, if_false, if_true]
theorem x_relation (hp : PH (71 + e) R p) (hq : PX I p q) (h7 : pO q ≤ 6) (hk : i < pO q) : Ev mX1_relation 0 [.ref p, .int (nI i)] [] (71 + e, I, L, R) = some (some (.int (nI (25 + pR q i))), (71 + e, I, L, R)) := by
  obtain ⟨o1, r0, r1, r2, r3, a1, a2, a3, a4, l1, l2, l3, l4⟩ := hp
  obtain ⟨q1, q2, q3, q4⟩ := hq
  have h : ¬ pO q ≤ i := by omega
  simp (disch := first | exact rt_bo_0 | exact rt_bo_1 | exact ns_float | exact ns_int | exact ns_ref | assumption | omega | (simp (disch := omega) only [o1, r3, a4, l4, rt_in_nI, Option.isSome_some, Option.getD_some, Bool.or_true, Bool.true_or]; done) | fail) only [e_X1_relation_0, e_X1_relation_1, e_X1_relation_4, e_X1_relation_5, e_X1_relation_6, e_X1_relation_9, e_X1_relation_12, e_X1_relation_13, e_X1_relation_16, e_X1_relation_17, e_X1_relation_18, e_X1_relation_21, e_X1_relation_22, q2, r3, h, q4 i hk, Option.getD_some, Option.bind_some, Option.toList_some, Option.toList_none, List.cons_append, List.nil_append, q_10, q_m10, q_00, q_lt, q_le, q_l0, q_0l, q_e1, q_eq, nI_cl, q_s, if_false, if_true]
theorem x_hasLook (hp : PH (71 + e) R p) (hq : PX I p q) (h7 : pP q ≤ 7) (hk : k < pP q) (hj : j < 6) : Ev mX1_hasLook 0 [.ref p, .int (nI k), .int (nI (5 + j))] [] (71 + e, I, L, R) = some (some (.int (b01 (pL q k j))), (71 + e, I, L, R)) := by
  obtain ⟨o1, r0, r1, r2, r3, a1, a2, a3, a4, l1, l2, l3, l4⟩ := hp
  obtain ⟨q1, q2, q3, q4⟩ := hq
  have h : ¬ pP q ≤ k := by omega
  simp (disch := first | exact rt_bo_0 | exact rt_bo_1 | exact ns_float | exact ns_int | exact ns_ref | assumption | omega | (simp (disch := omega) only [o1, r1, a2, l2, rt_in_nI, Option.isSome_some, Option.getD_some, Bool.or_true, Bool.true_or]; done) | fail) only [e_X1_hasLook_0, e_X1_hasLook_1, e_X1_hasLook_4, e_X1_hasLook_5, e_X1_hasLook_6, e_X1_hasLook_9, e_X1_hasLook_12, e_X1_hasLook_13, e_X1_hasLook_16, e_X1_hasLook_17, e_X1_hasLook_18, e_X1_hasLook_19, e_X1_hasLook_20, e_X1_hasLook_21, e_X1_hasLook_22, e_X1_hasLook_25, e_X1_hasLook_26, e_X1_hasLook_29, e_X1_hasLook_30, q1, r1, h, b_ask _ (show 5 + j < 32 by omega), (q3 k hk).2.2 j hj, Option.getD_some, Option.bind_some, Option.toList_some, Option.toList_none, List.cons_append, List.nil_append, q_10, q_m10, q_00, q_lt, q_le, q_l0, q_0l, q_e1, q_eq, nI_cl, q_s, if_false, if_true]
  cases pL q k j <;> simp [b01]
theorem x_looks (hR : RG R a b) (hT : I 1 5 = nI T) (h16 : T ≤ 16) (hk : k < T) (hj : j < 6) : Ev mX3_looks 0 [.ref 1, .int (nI k), .int (nI (5 + j))] [] (71 + e, I, L, R) = some (some (.int (b01 (ajf (I 3) (I 4) j k))), (71 + e, I, L, R)) := by
  have e9 : (9 : Int32) = nI 9 := rfl
  have e10 : (10 : Int32) = nI 10 := rfl
  have e5 : (5 : Int32) = nI 5 := rfl
  have s5 : nI (5 + j) - nI 5 = nI j := by rw [pk_sub (by omega)]; congr 1; omega
  unfold ajf
  by_cases h4 : j = 4
  · subst h4
    have c : (9 : Int32) = nI (5 + 4) := rfl
    simp (disch := first | exact rt_bo_0 | exact rt_bo_1 | exact ns_float | exact ns_int | exact ns_ref | assumption | omega | (simp (disch := omega) only [ob_1, rg_1_0 hR, ar_2, ln_2, rg_1_1 hR, ar_3, ln_3, rg_1_2 hR, ar_4, ln_4, rg_1_3 hR, ar_5, ln_5, rg_1_4 hR, ar_6, ln_6, rt_in_nI, Option.isSome_some, Option.getD_some, Bool.or_true, Bool.true_or]; done) | fail) only [e_X3_looks_0, e_X3_looks_1, e_X3_looks_4, e_X3_looks_5, e_X3_looks_6, e_X3_looks_9, e_X3_looks_12, e_X3_looks_13, e_X3_looks_14, e_X3_looks_15, e_X3_looks_17, e_X3_looks_20, e_X3_looks_21, e_X3_looks_23, e_X3_looks_26, e_X3_looks_27, e_X3_looks_30, e_X3_looks_31, e_X3_looks_32, e_X3_looks_33, e_X3_looks_36, e_X3_looks_37, e_X3_looks_40, e_X3_looks_41, e_X3_looks_42, e_X3_looks_44, e_X3_looks_47, e_X3_looks_48, e_X3_looks_51, e_X3_looks_52, e_X3_looks_55, e_X3_looks_56, e_X3_looks_59, e_X3_looks_60, e_X3_looks_61, e_X3_looks_62, e_X3_looks_65, e_X3_looks_66, e_X3_looks_67, e_X3_looks_68, e_X3_looks_69, e_X3_looks_70, e_X3_looks_73, e_X3_looks_74, e_X3_looks_77, e_X3_looks_78, hT, hk, rg_1_2 hR, ← c, Option.getD_some, Option.bind_some, Option.toList_some, Option.toList_none, List.cons_append, List.nil_append, q_10, q_m10, q_00, q_lt, q_le, q_l0, q_0l, q_e1, q_eq, nI_cl, q_s, if_false, if_true, q_sv]
    by_cases h : I 4 k < 5
    · simp [h, Int32.not_le.mpr h, b01]
    · simp [h, Int32.not_lt.mp h, b01]
  · by_cases h5 : j = 5
    · subst h5
      have c : (10 : Int32) = nI (5 + 5) := rfl
      have d1 : ((10 : Int32) = 9) = False := by decide
      simp (disch := first | exact rt_bo_0 | exact rt_bo_1 | exact ns_float | exact ns_int | exact ns_ref | assumption | omega | (simp (disch := omega) only [ob_1, rg_1_0 hR, ar_2, ln_2, rg_1_1 hR, ar_3, ln_3, rg_1_2 hR, ar_4, ln_4, rg_1_3 hR, ar_5, ln_5, rg_1_4 hR, ar_6, ln_6, rt_in_nI, Option.isSome_some, Option.getD_some, Bool.or_true, Bool.true_or]; done) | fail) only [e_X3_looks_0, e_X3_looks_1, e_X3_looks_4, e_X3_looks_5, e_X3_looks_6, e_X3_looks_9, e_X3_looks_12, e_X3_looks_13, e_X3_looks_14, e_X3_looks_15, e_X3_looks_17, e_X3_looks_20, e_X3_looks_21, e_X3_looks_23, e_X3_looks_26, e_X3_looks_27, e_X3_looks_30, e_X3_looks_31, e_X3_looks_32, e_X3_looks_33, e_X3_looks_36, e_X3_looks_37, e_X3_looks_40, e_X3_looks_41, e_X3_looks_42, e_X3_looks_44, e_X3_looks_47, e_X3_looks_48, e_X3_looks_51, e_X3_looks_52, e_X3_looks_55, e_X3_looks_56, e_X3_looks_59, e_X3_looks_60, e_X3_looks_61, e_X3_looks_62, e_X3_looks_65, e_X3_looks_66, e_X3_looks_67, e_X3_looks_68, e_X3_looks_69, e_X3_looks_70, e_X3_looks_73, e_X3_looks_74, e_X3_looks_77, e_X3_looks_78, hT, hk, rg_1_2 hR, ← c, d1, Option.getD_some, Option.bind_some, Option.toList_some, Option.toList_none, List.cons_append, List.nil_append, q_10, q_m10, q_00, q_lt, q_le, q_l0, q_0l, q_e1, q_eq, nI_cl, q_s, if_false, if_true, q_sv]
      by_cases h : I 4 k < 5
      · simp [h, Int32.not_le.mpr h, b01]
      · simp [h, Int32.not_lt.mp h, b01]
    · have d1 : (5 + j = 9) = False := eq_false (by omega)
      have d2 : (5 + j = 10) = False := eq_false (by omega)
      simp (disch := first | exact rt_bo_0 | exact rt_bo_1 | exact ns_float | exact ns_int | exact ns_ref | assumption | omega | (simp (disch := omega) only [ob_1, rg_1_0 hR, ar_2, ln_2, rg_1_1 hR, ar_3, ln_3, rg_1_2 hR, ar_4, ln_4, rg_1_3 hR, ar_5, ln_5, rg_1_4 hR, ar_6, ln_6, rt_in_nI, Option.isSome_some, Option.getD_some, Bool.or_true, Bool.true_or]; done) | fail) only [e_X3_looks_0, e_X3_looks_1, e_X3_looks_4, e_X3_looks_5, e_X3_looks_6, e_X3_looks_9, e_X3_looks_12, e_X3_looks_13, e_X3_looks_14, e_X3_looks_15, e_X3_looks_17, e_X3_looks_20, e_X3_looks_21, e_X3_looks_23, e_X3_looks_26, e_X3_looks_27, e_X3_looks_30, e_X3_looks_31, e_X3_looks_32, e_X3_looks_33, e_X3_looks_36, e_X3_looks_37, e_X3_looks_40, e_X3_looks_41, e_X3_looks_42, e_X3_looks_44, e_X3_looks_47, e_X3_looks_48, e_X3_looks_51, e_X3_looks_52, e_X3_looks_55, e_X3_looks_56, e_X3_looks_59, e_X3_looks_60, e_X3_looks_61, e_X3_looks_62, e_X3_looks_65, e_X3_looks_66, e_X3_looks_67, e_X3_looks_68, e_X3_looks_69, e_X3_looks_70, e_X3_looks_73, e_X3_looks_74, e_X3_looks_77, e_X3_looks_78, e9, e10, e5, s5, d1, d2, hT, hk, rg_1_1 hR, Option.getD_some, Option.bind_some, Option.toList_some, Option.toList_none, List.cons_append, List.nil_append, q_10, q_m10, q_00, q_lt, q_le, q_l0, q_0l, q_e1, q_eq, nI_cl, q_s, if_false, if_true, q_sv]
      simp only [if_neg h4, if_neg h5]
      by_cases h : I 3 k = nI j <;> simp [h, b01]
theorem x_allOf_l (hR : RG R a b) (hT : I 1 5 = nI T) (h16 : T ≤ 16) {w : Nat} (hw : w < 4) : ∀ (f y : Nat), y + f = T → Ev mX3_allOf 4 [.ref 1, .int (nI w), .int (bs (nsw (I 2) (fun _ _ => false) (some w)) y), .int (nI y)] [] (71 + e, I, L, R) = some (some (.int (bs (nsw (I 2) (fun _ _ => false) (some w)) T)), (71 + e, I, L, R)) := by
  intro f
  induction f with
  | zero =>
    intro y hy
    have hy' : y = T := by omega
    subst hy'
    rw [e_X3_allOf_4]
    simp (disch := first | exact rt_bo_0 | exact rt_bo_1 | exact ns_float | exact ns_int | exact ns_ref | assumption | omega | (simp (disch := omega) only [ob_1, rg_1_0 hR, ar_2, ln_2, rg_1_1 hR, ar_3, ln_3, rg_1_2 hR, ar_4, ln_4, rg_1_3 hR, ar_5, ln_5, rg_1_4 hR, ar_6, ln_6, rt_in_nI, Option.isSome_some, Option.getD_some, Bool.or_true, Bool.true_or]; done) | fail) only [e_X3_allOf_0, e_X3_allOf_1, e_X3_allOf_2, e_X3_allOf_3, e_X3_allOf_5, e_X3_allOf_6, e_X3_allOf_9, e_X3_allOf_12, e_X3_allOf_13, e_X3_allOf_16, e_X3_allOf_17, e_X3_allOf_20, e_X3_allOf_21, e_X3_allOf_22, e_X3_allOf_23, e_X3_allOf_24, e_X3_allOf_25, e_X3_allOf_28, e_X3_allOf_29, e_X3_allOf_30, e_X3_allOf_31, e_X3_allOf_32, e_X3_allOf_33, e_X3_allOf_34, e_X3_allOf_37, e_X3_allOf_40, e_X3_allOf_41, hT, q_le, Nat.le_refl, if_true, Option.getD_some, Option.bind_some, Option.toList_some, Option.toList_none, List.cons_append, List.nil_append]
  | succ f ih =>
    intro y hy
    have c : ¬ T ≤ y := by omega
    have hh := ih (y + 1) (by omega)
    rw [e_X3_allOf_4]
    simp only [bs] at hh
    by_cases h0 : w = 0
    · subst h0
      rw [nI_0] at hh ⊢
      simp only [nsw, if_true] at hh ⊢
      simp (disch := first | exact rt_bo_0 | exact rt_bo_1 | exact ns_float | exact ns_int | exact ns_ref | assumption | omega | (simp (disch := omega) only [ob_1, rg_1_0 hR, ar_2, ln_2, rg_1_1 hR, ar_3, ln_3, rg_1_2 hR, ar_4, ln_4, rg_1_3 hR, ar_5, ln_5, rg_1_4 hR, ar_6, ln_6, rt_in_nI, Option.isSome_some, Option.getD_some, Bool.or_true, Bool.true_or]; done) | fail) only [e_X3_allOf_0, e_X3_allOf_1, e_X3_allOf_2, e_X3_allOf_3, e_X3_allOf_5, e_X3_allOf_6, e_X3_allOf_9, e_X3_allOf_12, e_X3_allOf_13, e_X3_allOf_16, e_X3_allOf_17, e_X3_allOf_20, e_X3_allOf_21, e_X3_allOf_22, e_X3_allOf_23, e_X3_allOf_24, e_X3_allOf_25, e_X3_allOf_28, e_X3_allOf_29, e_X3_allOf_30, e_X3_allOf_31, e_X3_allOf_32, e_X3_allOf_33, e_X3_allOf_34, e_X3_allOf_37, e_X3_allOf_40, e_X3_allOf_41, hT, q_le, q_s, c, q_00, if_true, if_false, Option.getD_some, Option.bind_some, Option.toList_some, Option.toList_none, List.cons_append, List.nil_append]
      exact hh
    · have e0 : (nI w = 0) = False := by rw [← nI_0, q_eq (by omega) (by omega)]; exact eq_false h0
      have e1 : nI w - 1 = nI (w - 1) := q_p (by omega)
      simp only [nsw, if_neg h0, if_pos hw, decide_eq_true_eq] at hh ⊢
      simp (disch := first | exact rt_bo_0 | exact rt_bo_1 | exact ns_float | exact ns_int | exact ns_ref | assumption | omega | (simp (disch := omega) only [ob_1, rg_1_0 hR, ar_2, ln_2, rg_1_1 hR, ar_3, ln_3, rg_1_2 hR, ar_4, ln_4, rg_1_3 hR, ar_5, ln_5, rg_1_4 hR, ar_6, ln_6, rt_in_nI, Option.isSome_some, Option.getD_some, Bool.or_true, Bool.true_or]; done) | fail) only [e_X3_allOf_0, e_X3_allOf_1, e_X3_allOf_2, e_X3_allOf_3, e_X3_allOf_5, e_X3_allOf_6, e_X3_allOf_9, e_X3_allOf_12, e_X3_allOf_13, e_X3_allOf_16, e_X3_allOf_17, e_X3_allOf_20, e_X3_allOf_21, e_X3_allOf_22, e_X3_allOf_23, e_X3_allOf_24, e_X3_allOf_25, e_X3_allOf_28, e_X3_allOf_29, e_X3_allOf_30, e_X3_allOf_31, e_X3_allOf_32, e_X3_allOf_33, e_X3_allOf_34, e_X3_allOf_37, e_X3_allOf_40, e_X3_allOf_41, hT, q_le, q_s, c, e0, e1, rg_1_0 hR, nI_cl, if_true, if_false, Option.getD_some, Option.bind_some, Option.toList_some, Option.toList_none, List.cons_append, List.nil_append]
      by_cases h : I 2 y = nI (w - 1)
      · rw [if_pos h] at hh ⊢
        exact hh
      · rw [if_neg h] at hh ⊢
        exact hh
theorem x_allOf (hR : RG R a b) (hT : I 1 5 = nI T) (h16 : T ≤ 16) {w : Nat} (hw : w < 4) {ts : Nat → Nat → Bool} : Ev mX3_allOf 0 [.ref 1, .int (nI w), .float 0, .float 0] [] (71 + e, I, L, R) = some (some (.int (bs (nsw (I 2) ts (some w)) T)), (71 + e, I, L, R)) := by
  have hh := x_allOf_l (e := e) (L := L) hR hT h16 hw T 0 (by omega)
  have e1 : bs (nsw (I 2) ts (some w)) T = bs (nsw (I 2) (fun _ _ => false) (some w)) T := bs_congr (by omega) (fun x _ => by
    unfold nsw
    by_cases h0 : w = 0
    · simp [h0]
    · simp [h0, hw])
  rw [e1]
  rw [nI_0] at hh
  simp only [bs] at hh
  simp (disch := first | exact rt_bo_0 | exact rt_bo_1 | exact ns_float | exact ns_int | exact ns_ref | assumption | omega | (simp (disch := omega) only [ob_1, rg_1_0 hR, ar_2, ln_2, rg_1_1 hR, ar_3, ln_3, rg_1_2 hR, ar_4, ln_4, rg_1_3 hR, ar_5, ln_5, rg_1_4 hR, ar_6, ln_6, rt_in_nI, Option.isSome_some, Option.getD_some, Bool.or_true, Bool.true_or]; done) | fail) only [e_X3_allOf_0, e_X3_allOf_1, e_X3_allOf_2, e_X3_allOf_3, e_X3_allOf_5, e_X3_allOf_6, e_X3_allOf_9, e_X3_allOf_12, e_X3_allOf_13, e_X3_allOf_16, e_X3_allOf_17, e_X3_allOf_20, e_X3_allOf_21, e_X3_allOf_22, e_X3_allOf_23, e_X3_allOf_24, e_X3_allOf_25, e_X3_allOf_28, e_X3_allOf_29, e_X3_allOf_30, e_X3_allOf_31, e_X3_allOf_32, e_X3_allOf_33, e_X3_allOf_34, e_X3_allOf_37, e_X3_allOf_40, e_X3_allOf_41, hh]
theorem bs_one {x : Nat} (hx : x < n) (hn : n ≤ 32) : (1 : Int32) <<< (nI x &&& 31) = bs (fun y => decide (y = x)) n := by
  apply b_ext
  intro i hi
  rw [b_one (by omega) hi, b_bs _ n hn i hi]
  by_cases h : i = x
  · subst h; simp [hx]
  · simp [h]
theorem x_just_in (hR : RG R a b) (hT : I 1 5 = nI T) (h16 : T ≤ 16) (hj : j < T) : Ev mX5_justThis 0 [.ref 27, .int (nI j)] [] (71 + e, I, L, R) = some (some (.int (bs (fun y => decide (y = j)) T)), (71 + e, I, L, R)) := by
  simp (disch := first | exact rt_bo_0 | exact rt_bo_1 | exact ns_float | exact ns_int | exact ns_ref | assumption | omega | (simp (disch := omega) only [ob_27, rg_27_0 hR, rg_27_1 hR, rg_27_2 hR, rg_27_3 hR, ar_28, ln_28, rg_27_4 hR, ar_29, ln_29, rg_27_5 hR, ar_30, ln_30, ob_1, rg_1_0 hR, ar_2, ln_2, rg_1_1 hR, ar_3, ln_3, rg_1_2 hR, ar_4, ln_4, rg_1_3 hR, ar_5, ln_5, rg_1_4 hR, ar_6, ln_6, rt_in_nI, Option.isSome_some, Option.getD_some, Bool.or_true, Bool.true_or]; done) | fail) only [e_X5_justThis_0, e_X5_justThis_1, e_X5_justThis_4, e_X5_justThis_5, e_X5_justThis_8, e_X5_justThis_11, e_X5_justThis_12, e_X5_justThis_13, e_X5_justThis_14, e_X5_justThis_17, e_X5_justThis_18, rg_27_0 hR, x_has_in hR hT h16 hj, q_10, if_false, Option.getD_some, Option.bind_some, Option.toList_some, Option.toList_none, List.cons_append, List.nil_append]
  rw [bs_one hj (by omega)]
theorem x_just_out (hR : RG R a b) (hT : I 1 5 = nI T) (h16 : T ≤ 16) (hx : xout x T) : Ev mX5_justThis 0 [.ref 27, .int x] [] (71 + e, I, L, R) = some (some (.int 0), (71 + e, I, L, R)) := by
  simp (disch := first | exact rt_bo_0 | exact rt_bo_1 | exact ns_float | exact ns_int | exact ns_ref | assumption | omega | (simp (disch := omega) only [ob_27, rg_27_0 hR, rg_27_1 hR, rg_27_2 hR, rg_27_3 hR, ar_28, ln_28, rg_27_4 hR, ar_29, ln_29, rg_27_5 hR, ar_30, ln_30, ob_1, rg_1_0 hR, ar_2, ln_2, rg_1_1 hR, ar_3, ln_3, rg_1_2 hR, ar_4, ln_4, rg_1_3 hR, ar_5, ln_5, rg_1_4 hR, ar_6, ln_6, rt_in_nI, Option.isSome_some, Option.getD_some, Bool.or_true, Bool.true_or]; done) | fail) only [e_X5_justThis_0, e_X5_justThis_1, e_X5_justThis_4, e_X5_justThis_5, e_X5_justThis_8, e_X5_justThis_11, e_X5_justThis_12, e_X5_justThis_13, e_X5_justThis_14, e_X5_justThis_17, e_X5_justThis_18, rg_27_0 hR, x_has_out hR hT h16 hx, q_00, if_true, Option.getD_some, Option.bind_some, Option.toList_some, Option.toList_none, List.cons_append, List.nil_append]
theorem q_lit : (29 : Int32) = nI 29 ∧ (37 : Int32) = nI 37 ∧ (4 : Int32) = nI 4 := ⟨rfl, rfl, rfl⟩
def oX : Option Nat → Int32
  | none => -1
  | some w => nI w
def oM : Option Nat → Int32
  | none => -1
  | some w => nI (rwd w)
/-- a noun's number that may stand: none, one of the four, a told one -/
def won (nw : Nat) (w : Option Nat) : Prop := ∀ v, w = some v → v < 4 ∨ (29 ≤ v ∧ v < 29 + nw)
theorem x_noun (hR : RG R a b) (hT : I 1 5 = nI T) (h16 : T ≤ 16) {w : Option Nat} {nw : Nat} (h8 : nw ≤ 8) (hw : won nw w) {ts : Nat → Nat → Bool} (hts : ∀ k, k < nw → I 30 k = bs (ts k) T) : Ev mX5_meantByNoun 0 [.ref 27, .int (oX w)] [] (71 + e, I, L, R) = some (some (.int (bs (nsw (I 2) ts w) T)), (71 + e, I, L, R)) := by
  obtain ⟨l1, l2, l3⟩ := q_lit
  cases w with
  | none =>
    have d1 : ((-1 : Int32) < 29) = True := by decide
    have d2 : ((-1 : Int32) < 0) = True := by decide
    have z : bs (nsw (I 2) ts none) T = 0 := bs_none (fun x _ => rfl)
    rw [z]
    simp (disch := first | exact rt_bo_0 | exact rt_bo_1 | exact ns_float | exact ns_int | exact ns_ref | assumption | omega | (simp (disch := omega) only [ob_27, rg_27_0 hR, rg_27_1 hR, rg_27_2 hR, rg_27_3 hR, ar_28, ln_28, rg_27_4 hR, ar_29, ln_29, rg_27_5 hR, ar_30, ln_30, ob_1, rg_1_0 hR, ar_2, ln_2, rg_1_1 hR, ar_3, ln_3, rg_1_2 hR, ar_4, ln_4, rg_1_3 hR, ar_5, ln_5, rg_1_4 hR, ar_6, ln_6, rt_in_nI, Option.isSome_some, Option.getD_some, Bool.or_true, Bool.true_or]; done) | fail) only [e_X5_meantByNoun_0, e_X5_meantByNoun_1, e_X5_meantByNoun_3, e_X5_meantByNoun_6, e_X5_meantByNoun_7, e_X5_meantByNoun_9, e_X5_meantByNoun_12, e_X5_meantByNoun_13, e_X5_meantByNoun_16, e_X5_meantByNoun_17, e_X5_meantByNoun_19, e_X5_meantByNoun_20, e_X5_meantByNoun_21, e_X5_meantByNoun_22, e_X5_meantByNoun_23, e_X5_meantByNoun_26, e_X5_meantByNoun_27, e_X5_meantByNoun_28, e_X5_meantByNoun_31, e_X5_meantByNoun_32, e_X5_meantByNoun_35, e_X5_meantByNoun_36, e_X5_meantByNoun_39, e_X5_meantByNoun_42, e_X5_meantByNoun_43, oX, d1, d2, if_true]
  | some v =>
    rcases hw v rfl with h | ⟨h1, h2⟩
    · have d1 : (v < 29) = True := eq_true (by omega)
      have d2 : (4 ≤ v) = False := eq_false (by omega)
      simp (disch := first | exact rt_bo_0 | exact rt_bo_1 | exact ns_float | exact ns_int | exact ns_ref | assumption | omega | (simp (disch := omega) only [ob_27, rg_27_0 hR, rg_27_1 hR, rg_27_2 hR, rg_27_3 hR, ar_28, ln_28, rg_27_4 hR, ar_29, ln_29, rg_27_5 hR, ar_30, ln_30, ob_1, rg_1_0 hR, ar_2, ln_2, rg_1_1 hR, ar_3, ln_3, rg_1_2 hR, ar_4, ln_4, rg_1_3 hR, ar_5, ln_5, rg_1_4 hR, ar_6, ln_6, rt_in_nI, Option.isSome_some, Option.getD_some, Bool.or_true, Bool.true_or]; done) | fail) only [e_X5_meantByNoun_0, e_X5_meantByNoun_1, e_X5_meantByNoun_3, e_X5_meantByNoun_6, e_X5_meantByNoun_7, e_X5_meantByNoun_9, e_X5_meantByNoun_12, e_X5_meantByNoun_13, e_X5_meantByNoun_16, e_X5_meantByNoun_17, e_X5_meantByNoun_19, e_X5_meantByNoun_20, e_X5_meantByNoun_21, e_X5_meantByNoun_22, e_X5_meantByNoun_23, e_X5_meantByNoun_26, e_X5_meantByNoun_27, e_X5_meantByNoun_28, e_X5_meantByNoun_31, e_X5_meantByNoun_32, e_X5_meantByNoun_35, e_X5_meantByNoun_36, e_X5_meantByNoun_39, e_X5_meantByNoun_42, e_X5_meantByNoun_43, oX, l1, l2, l3, d1, d2, q_lt, q_le, q_l0, rg_27_0 hR, x_allOf (ts := ts) hR hT h16 h, if_true, if_false, Option.getD_some, Option.bind_some, Option.toList_some, Option.toList_none, List.cons_append, List.nil_append]
    · have d1 : (v < 29) = False := eq_false (by omega)
      have d2 : (37 ≤ v) = False := eq_false (by omega)
      have s5 : nI v - nI 29 = nI (v - 29) := pk_sub h1
      simp (disch := first | exact rt_bo_0 | exact rt_bo_1 | exact ns_float | exact ns_int | exact ns_ref | assumption | omega | (simp (disch := omega) only [ob_27, rg_27_0 hR, rg_27_1 hR, rg_27_2 hR, rg_27_3 hR, ar_28, ln_28, rg_27_4 hR, ar_29, ln_29, rg_27_5 hR, ar_30, ln_30, ob_1, rg_1_0 hR, ar_2, ln_2, rg_1_1 hR, ar_3, ln_3, rg_1_2 hR, ar_4, ln_4, rg_1_3 hR, ar_5, ln_5, rg_1_4 hR, ar_6, ln_6, rt_in_nI, Option.isSome_some, Option.getD_some, Bool.or_true, Bool.true_or]; done) | fail) only [e_X5_meantByNoun_0, e_X5_meantByNoun_1, e_X5_meantByNoun_3, e_X5_meantByNoun_6, e_X5_meantByNoun_7, e_X5_meantByNoun_9, e_X5_meantByNoun_12, e_X5_meantByNoun_13, e_X5_meantByNoun_16, e_X5_meantByNoun_17, e_X5_meantByNoun_19, e_X5_meantByNoun_20, e_X5_meantByNoun_21, e_X5_meantByNoun_22, e_X5_meantByNoun_23, e_X5_meantByNoun_26, e_X5_meantByNoun_27, e_X5_meantByNoun_28, e_X5_meantByNoun_31, e_X5_meantByNoun_32, e_X5_meantByNoun_35, e_X5_meantByNoun_36, e_X5_meantByNoun_39, e_X5_meantByNoun_42, e_X5_meantByNoun_43, oX, l1, l2, l3, d1, d2, s5, q_lt, q_le, q_l0, rg_27_5 hR, nI_cl, if_true, if_false, Option.getD_some, Option.bind_some, Option.toList_some, Option.toList_none, List.cons_append, List.nil_append]
      rw [hts (v - 29) (by omega)]
      have : bs (nsw (I 2) ts (some v)) T = bs (ts (v - 29)) T := bs_congr (by omega) (fun x _ => by
        unfold nsw
        simp [show v ≠ 0 by omega, show ¬ v < 4 by omega])
      rw [this]
end P19

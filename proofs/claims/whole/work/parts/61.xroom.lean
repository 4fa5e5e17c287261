section P1
variable {e : Nat} {I : Nat → Nat → Int32} {L : Nat → Nat → Int64} {R : Nat → Nat → Option Nat} {a b T j : Nat} {x : Int32}
theorem x_has_in (hR : RG R a b) (hT : I 1 5 = nI T) (h16 : T ≤ 16) (hj : j < T) : Ev mX3_has 0 [.ref 1, .int (nI j)] [] (71 + e, I, L, R) = some (some (.int 1), (71 + e, I, L, R)) := by
  simp (disch := first | exact rt_bo_0 | exact rt_bo_1 | exact ns_float | exact ns_int | exact ns_ref | omega | (simp (disch := omega) only [ob_1, rg_1_0 hR, ar_2, ln_2, rg_1_1 hR, ar_3, ln_3, rg_1_2 hR, ar_4, ln_4, rg_1_3 hR, ar_5, ln_5, rg_1_4 hR, ar_6, ln_6, rt_in_nI, Option.isSome_some, Option.getD_some]; done) | fail) only [e_X3_has_0, e_X3_has_1, e_X3_has_4, e_X3_has_5, e_X3_has_6, e_X3_has_9, e_X3_has_12, e_X3_has_13, e_X3_has_16, e_X3_has_17, hT, q_10, q_m10, q_00, q_lt, q_le, q_l0, q_0l, q_e1, q_eq, nI_cl, q_s, if_false, if_true]
  rw [if_neg (by omega)]
theorem x_has_out (hR : RG R a b) (hT : I 1 5 = nI T) (h16 : T ≤ 16) (hx : xout x T) : Ev mX3_has 0 [.ref 1, .int x] [] (71 + e, I, L, R) = some (some (.int 0), (71 + e, I, L, R)) := by
  simp (disch := first | exact rt_bo_0 | exact rt_bo_1 | exact ns_float | exact ns_int | exact ns_ref | omega | (simp (disch := omega) only [ob_1, rg_1_0 hR, ar_2, ln_2, rg_1_1 hR, ar_3, ln_3, rg_1_2 hR, ar_4, ln_4, rg_1_3 hR, ar_5, ln_5, rg_1_4 hR, ar_6, ln_6, rt_in_nI, Option.isSome_some, Option.getD_some]; done) | fail) only [e_X3_has_0, e_X3_has_1, e_X3_has_4, e_X3_has_5, e_X3_has_6, e_X3_has_9, e_X3_has_12, e_X3_has_13, e_X3_has_16, e_X3_has_17, hT]
  exact xout_ite hx (by omega)
theorem x_place_in (hR : RG R a b) (hT : I 1 5 = nI T) (h16 : T ≤ 16) (hj : j < T) : Ev mX3_placeOf 0 [.ref 1, .int (nI j)] [] (71 + e, I, L, R) = some (some (.int (I 5 j)), (71 + e, I, L, R)) := by
  simp (disch := first | exact rt_bo_0 | exact rt_bo_1 | exact ns_float | exact ns_int | exact ns_ref | omega | (simp (disch := omega) only [ob_1, rg_1_0 hR, ar_2, ln_2, rg_1_1 hR, ar_3, ln_3, rg_1_2 hR, ar_4, ln_4, rg_1_3 hR, ar_5, ln_5, rg_1_4 hR, ar_6, ln_6, rt_in_nI, Option.isSome_some, Option.getD_some]; done) | fail) only [e_X3_placeOf_0, e_X3_placeOf_1, e_X3_placeOf_4, e_X3_placeOf_5, e_X3_placeOf_6, e_X3_placeOf_9, e_X3_placeOf_12, e_X3_placeOf_13, e_X3_placeOf_16, e_X3_placeOf_17, e_X3_placeOf_18, e_X3_placeOf_21, e_X3_placeOf_22, hT, q_10, q_m10, q_00, q_lt, q_le, q_l0, q_0l, q_e1, q_eq, nI_cl, q_s, if_false, if_true, Option.getD_some, Option.bind_some, Option.toList_some, List.cons_append, List.nil_append, rg_1_3 hR]
  rw [if_neg (by omega)]
theorem x_place_out (hR : RG R a b) (hT : I 1 5 = nI T) (h16 : T ≤ 16) (hx : xout x T) : Ev mX3_placeOf 0 [.ref 1, .int x] [] (71 + e, I, L, R) = some (some (.int (-1)), (71 + e, I, L, R)) := by
  simp (disch := first | exact rt_bo_0 | exact rt_bo_1 | exact ns_float | exact ns_int | exact ns_ref | omega | (simp (disch := omega) only [ob_1, rg_1_0 hR, ar_2, ln_2, rg_1_1 hR, ar_3, ln_3, rg_1_2 hR, ar_4, ln_4, rg_1_3 hR, ar_5, ln_5, rg_1_4 hR, ar_6, ln_6, rt_in_nI, Option.isSome_some, Option.getD_some]; done) | fail) only [e_X3_placeOf_0, e_X3_placeOf_1, e_X3_placeOf_4, e_X3_placeOf_5, e_X3_placeOf_6, e_X3_placeOf_9, e_X3_placeOf_12, e_X3_placeOf_13, e_X3_placeOf_16, e_X3_placeOf_17, e_X3_placeOf_18, e_X3_placeOf_21, e_X3_placeOf_22, hT]
  exact xout_ite hx (by omega)
theorem x_isSort_in (hR : RG R a b) (hT : I 1 5 = nI T) (h16 : T ≤ 16) (hj : j < T) : Ev mX3_isSort 0 [.ref 1, .int (nI j), .int x] [] (71 + e, I, L, R) = some (some (.int (if I 2 j = x then 1 else 0)), (71 + e, I, L, R)) := by
  simp (disch := first | exact rt_bo_0 | exact rt_bo_1 | exact ns_float | exact ns_int | exact ns_ref | omega | (simp (disch := omega) only [ob_1, rg_1_0 hR, ar_2, ln_2, rg_1_1 hR, ar_3, ln_3, rg_1_2 hR, ar_4, ln_4, rg_1_3 hR, ar_5, ln_5, rg_1_4 hR, ar_6, ln_6, rt_in_nI, Option.isSome_some, Option.getD_some]; done) | fail) only [e_X3_isSort_0, e_X3_isSort_1, e_X3_isSort_2, e_X3_isSort_5, e_X3_isSort_8, e_X3_isSort_9, e_X3_isSort_12, e_X3_isSort_13, e_X3_isSort_14, e_X3_isSort_15, e_X3_isSort_18, e_X3_isSort_19, e_X3_isSort_22, e_X3_isSort_23, hT, q_10, q_m10, q_00, q_lt, q_le, q_l0, q_0l, q_e1, q_eq, nI_cl, q_s, if_false, if_true, Option.getD_some, Option.bind_some, Option.toList_some, List.cons_append, List.nil_append, rg_1_0 hR, x_has_in hR hT h16 hj, q_some, q_pair, q_int]
theorem x_isSort_out {y : Int32} (hR : RG R a b) (hT : I 1 5 = nI T) (h16 : T ≤ 16) (hx : xout x T) : Ev mX3_isSort 0 [.ref 1, .int x, .int y] [] (71 + e, I, L, R) = some (some (.int 0), (71 + e, I, L, R)) := by
  simp (disch := first | exact rt_bo_0 | exact rt_bo_1 | exact ns_float | exact ns_int | exact ns_ref | omega | (simp (disch := omega) only [ob_1, rg_1_0 hR, ar_2, ln_2, rg_1_1 hR, ar_3, ln_3, rg_1_2 hR, ar_4, ln_4, rg_1_3 hR, ar_5, ln_5, rg_1_4 hR, ar_6, ln_6, rt_in_nI, Option.isSome_some, Option.getD_some]; done) | fail) only [e_X3_isSort_0, e_X3_isSort_1, e_X3_isSort_2, e_X3_isSort_5, e_X3_isSort_8, e_X3_isSort_9, e_X3_isSort_12, e_X3_isSort_13, e_X3_isSort_14, e_X3_isSort_15, e_X3_isSort_18, e_X3_isSort_19, e_X3_isSort_22, e_X3_isSort_23, hT, q_10, q_m10, q_00, q_lt, q_le, q_l0, q_0l, q_e1, q_eq, nI_cl, q_s, if_false, if_true, Option.getD_some, Option.bind_some, Option.toList_some, List.cons_append, List.nil_append, x_has_out hR hT h16 hx]
theorem x_onTop_l (hR : RG R a b) (hT : I 1 5 = nI T) (h16 : T ≤ 16) : ∀ (k y : Nat), y + k = T → Ev mX3_onTop 23 [.ref 1, .int x, .int (nI y)] [] (71 + e, I, L, R) = some (some (.int (ff (fun i => I 5 i = x) y k)), (71 + e, I, L, R)) := by
  intro k
  induction k with
  | zero =>
    intro y hy
    rw [e_X3_onTop_23]
    simp (disch := first | exact rt_bo_0 | exact rt_bo_1 | exact ns_float | exact ns_int | exact ns_ref | omega | (simp (disch := omega) only [ob_1, rg_1_0 hR, ar_2, ln_2, rg_1_1 hR, ar_3, ln_3, rg_1_2 hR, ar_4, ln_4, rg_1_3 hR, ar_5, ln_5, rg_1_4 hR, ar_6, ln_6, rt_in_nI, Option.isSome_some, Option.getD_some]; done) | fail) only [e_X3_onTop_0, e_X3_onTop_1, e_X3_onTop_4, e_X3_onTop_5, e_X3_onTop_6, e_X3_onTop_9, e_X3_onTop_12, e_X3_onTop_13, e_X3_onTop_16, e_X3_onTop_17, e_X3_onTop_18, e_X3_onTop_21, e_X3_onTop_22, e_X3_onTop_24, e_X3_onTop_25, e_X3_onTop_28, e_X3_onTop_31, e_X3_onTop_32, e_X3_onTop_35, e_X3_onTop_36, e_X3_onTop_37, e_X3_onTop_38, e_X3_onTop_41, e_X3_onTop_42, e_X3_onTop_43, e_X3_onTop_46, e_X3_onTop_49, e_X3_onTop_50, hT, q_le, Option.getD_some, Option.bind_some, Option.toList_some, List.cons_append, List.nil_append, ff]
    rw [if_pos (by omega)]
  | succ k ih =>
    intro y hy
    rw [e_X3_onTop_23]
    simp (disch := first | exact rt_bo_0 | exact rt_bo_1 | exact ns_float | exact ns_int | exact ns_ref | omega | (simp (disch := omega) only [ob_1, rg_1_0 hR, ar_2, ln_2, rg_1_1 hR, ar_3, ln_3, rg_1_2 hR, ar_4, ln_4, rg_1_3 hR, ar_5, ln_5, rg_1_4 hR, ar_6, ln_6, rt_in_nI, Option.isSome_some, Option.getD_some]; done) | fail) only [e_X3_onTop_0, e_X3_onTop_1, e_X3_onTop_4, e_X3_onTop_5, e_X3_onTop_6, e_X3_onTop_9, e_X3_onTop_12, e_X3_onTop_13, e_X3_onTop_16, e_X3_onTop_17, e_X3_onTop_18, e_X3_onTop_21, e_X3_onTop_22, e_X3_onTop_24, e_X3_onTop_25, e_X3_onTop_28, e_X3_onTop_31, e_X3_onTop_32, e_X3_onTop_35, e_X3_onTop_36, e_X3_onTop_37, e_X3_onTop_38, e_X3_onTop_41, e_X3_onTop_42, e_X3_onTop_43, e_X3_onTop_46, e_X3_onTop_49, e_X3_onTop_50, hT, q_le, rg_1_3 hR, nI_cl, q_s, Option.getD_some, Option.bind_some, Option.toList_some, List.cons_append, List.nil_append, ff]
    rw [if_neg (by omega), ih (y + 1) (by omega)]
    by_cases h : I 5 y = x
    · rw [if_pos h, if_pos h]
    · rw [if_neg h, if_neg h]
theorem x_onTop_in (hR : RG R a b) (hT : I 1 5 = nI T) (h16 : T ≤ 16) (hj : j < T) : Ev mX3_onTop 0 [.ref 1, .int (nI j), .float 0] [] (71 + e, I, L, R) = some (some (.int (if I 2 j = 0 then ff (fun i => I 5 i = nI j) 0 T else -1)), (71 + e, I, L, R)) := by
  have hl := x_onTop_l (L := L) (e := e) (x := nI j) hR hT h16 T 0 (by omega)
  rw [nI_0] at hl
  simp (disch := first | exact rt_bo_0 | exact rt_bo_1 | exact ns_float | exact ns_int | exact ns_ref | omega | (simp (disch := omega) only [ob_1, rg_1_0 hR, ar_2, ln_2, rg_1_1 hR, ar_3, ln_3, rg_1_2 hR, ar_4, ln_4, rg_1_3 hR, ar_5, ln_5, rg_1_4 hR, ar_6, ln_6, rt_in_nI, Option.isSome_some, Option.getD_some]; done) | fail) only [e_X3_onTop_0, e_X3_onTop_1, e_X3_onTop_4, e_X3_onTop_5, e_X3_onTop_6, e_X3_onTop_9, e_X3_onTop_12, e_X3_onTop_13, e_X3_onTop_16, e_X3_onTop_17, e_X3_onTop_18, e_X3_onTop_21, e_X3_onTop_22, e_X3_onTop_24, e_X3_onTop_25, e_X3_onTop_28, e_X3_onTop_31, e_X3_onTop_32, e_X3_onTop_35, e_X3_onTop_36, e_X3_onTop_37, e_X3_onTop_38, e_X3_onTop_41, e_X3_onTop_42, e_X3_onTop_43, e_X3_onTop_46, e_X3_onTop_49, e_X3_onTop_50, hT, q_10, q_m10, q_00, q_lt, q_le, q_l0, q_0l, q_e1, q_eq, nI_cl, q_s, if_false, if_true, Option.getD_some, Option.bind_some, Option.toList_some, List.cons_append, List.nil_append, rg_1_0 hR, hl, q_some, q_pair, q_int]
  rw [if_neg (by omega)]
theorem x_onTop_out (hR : RG R a b) (hT : I 1 5 = nI T) (h16 : T ≤ 16) (hx : xout x T) : Ev mX3_onTop 0 [.ref 1, .int x, .float 0] [] (71 + e, I, L, R) = some (some (.int (-1)), (71 + e, I, L, R)) := by
  simp (disch := first | exact rt_bo_0 | exact rt_bo_1 | exact ns_float | exact ns_int | exact ns_ref | omega | (simp (disch := omega) only [ob_1, rg_1_0 hR, ar_2, ln_2, rg_1_1 hR, ar_3, ln_3, rg_1_2 hR, ar_4, ln_4, rg_1_3 hR, ar_5, ln_5, rg_1_4 hR, ar_6, ln_6, rt_in_nI, Option.isSome_some, Option.getD_some]; done) | fail) only [e_X3_onTop_0, e_X3_onTop_1, e_X3_onTop_4, e_X3_onTop_5, e_X3_onTop_6, e_X3_onTop_9, e_X3_onTop_12, e_X3_onTop_13, e_X3_onTop_16, e_X3_onTop_17, e_X3_onTop_18, e_X3_onTop_21, e_X3_onTop_22, e_X3_onTop_24, e_X3_onTop_25, e_X3_onTop_28, e_X3_onTop_31, e_X3_onTop_32, e_X3_onTop_35, e_X3_onTop_36, e_X3_onTop_37, e_X3_onTop_38, e_X3_onTop_41, e_X3_onTop_42, e_X3_onTop_43, e_X3_onTop_46, e_X3_onTop_49, e_X3_onTop_50, hT]
  exact xout_ite hx (by omega)
/-- nothing lies at T: a search among T finds a thing below T, or none -/
theorem ff_cases (p : Nat → Prop) [DecidablePred p] : ∀ (k y : Nat), (ff p y k = -1 ∧ ∀ i, y ≤ i → i < y + k → ¬ p i) ∨ ∃ i, y ≤ i ∧ i < y + k ∧ p i ∧ ff p y k = nI i ∧ ∀ i2, y ≤ i2 → i2 < i → ¬ p i2 := by
  intro k
  induction k with
  | zero => intro y; exact Or.inl ⟨rfl, fun i h1 h2 => by omega⟩
  | succ k ih =>
    intro y
    unfold ff
    by_cases h : p y
    · rw [if_pos h]
      exact Or.inr ⟨y, Nat.le_refl _, by omega, h, rfl, fun i2 h1 h2 => by omega⟩
    · rw [if_neg h]
      rcases ih (y + 1) with ⟨h1, h2⟩ | ⟨i, h1, h2, h3, h4, h5⟩
      · refine Or.inl ⟨h1, fun i a b => ?_⟩
        by_cases hi : i = y
        · subst hi; exact h
        · exact h2 i (by omega) (by omega)
      · refine Or.inr ⟨i, by omega, by omega, h3, h4, fun i2 a b => ?_⟩
        by_cases hi : i2 = y
        · subst hi; exact h
        · exact h5 i2 (by omega) b
end P1

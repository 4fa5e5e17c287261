section P63
variable {e : Nat} {I I0 I2 : Nat → Nat → Int32} {L : Nat → Nat → Int64} {R : Nat → Nat → Option Nat} {a b j n k p i r o f P O c : Nat} {x y v : Int32} {K dg d : Nat → Nat} {pl has : Bool} {W : List (Nat → Nat)} {g : (Nat → Nat) → Int32}
/-- rows as a cell holds them -/
def RX (I : Nat → Nat → Int32) (c : Nat) (g : (Nat → Nat) → Int32) (l : List (Nat → Nat)) : Prop := ∀ (r : Nat) (d : Nat → Nat), l[r]? = some d → I c r = g d
theorem RX_nil : RX I c g [] := fun r d h => by rw [List.getElem?_nil] at h; cases h
theorem RX_snoc (h : RX I c g W) (hv : v = g d) : RX (rt_up I c W.length v) c g (W ++ [d]) := by
  intro r d2 h2
  by_cases e1 : r = W.length
  · subst e1
    rw [List.getElem?_append_right (Nat.le_refl _), Nat.sub_self, List.getElem?_cons_zero, Option.some.injEq] at h2
    rw [rt_up_eq, hv, h2]
  · rw [rt_up_n2 e1]
    by_cases e2 : r < W.length
    · rw [List.getElem?_append_left e2] at h2
      exact h r d2 h2
    · rw [List.getElem?_eq_none (by rw [List.length_append, List.length_singleton]; omega)] at h2
      cases h2
theorem RX_fr (h : RX I c g W) (hf : I2 c = I c) : RX I2 c g W := fun r d hd => by rw [hf]; exact h r d hd
theorem RG_sp (a b : Nat) : rt_RGL a b = (rt_RGL 0 0).take 26 ++ (23, 0, a) :: (23, 1, b) :: (rt_RGL 0 0).drop 28 := rfl
theorem RG_ne : (∀ q, q ∈ (rt_RGL 0 0).take 26 → q.1 ≠ 23) ∧ ∀ q, q ∈ (rt_RGL 0 0).drop 28 → q.1 ≠ 23 := by decide +kernel
theorem RG_sw (h : RG R a b) : RG (rt_up (rt_up R 23 1 (some a)) 23 0 (some b)) b a := by
  intro q hq
  rw [RG_sp, List.mem_append, List.mem_cons, List.mem_cons] at hq
  rcases hq with hq | hq | hq | hq
  · have hn := RG_ne.1 q hq
    rw [rt_up_n1 hn, rt_up_n1 hn]
    exact h q (by rw [RG_sp, List.mem_append]; exact Or.inl hq)
  · rw [hq, rt_up_eq]
  · rw [hq, rt_up_n2 (show (1 : Nat) ≠ 0 by decide), rt_up_eq]
  · have hn := RG_ne.2 q hq
    rw [rt_up_n1 hn, rt_up_n1 hn]
    exact h q (by rw [RG_sp, List.mem_append, List.mem_cons, List.mem_cons]; exact Or.inr (Or.inr (Or.inr hq)))
theorem ab_ar (h : a = 24 ∨ a = 25) : rt_ar (71 + e) a 1 = true ∧ rt_ln a = 264 := by
  rcases h with h | h
  · rw [h]; exact ⟨ar_24 e, ln_24⟩
  · rw [h]; exact ⟨ar_25 e, ln_25⟩
theorem x_nn (hR : RG R a b) (hP : I 18 4 = nI P) (h7 : P ≤ 7) (hk : k < P) : Ev mX1_nounOf 0 [.ref 18, .int (nI k)] [] (71 + e, I, L, R) = some (some (.int (I 21 k)), (71 + e, I, L, R)) := by
  have c : ¬ P ≤ k := by omega
  simp (disch := first | exact rt_bo_0 | exact rt_bo_1 | exact ns_float | exact ns_int | exact ns_ref | assumption | omega | (simp (disch := omega) only [ob_18, rg_18_0 hR, ar_19, ln_19, rg_18_1 hR, ar_20, ln_20, rg_18_2 hR, ar_21, ln_21, rg_18_3 hR, ar_22, ln_22, rt_in_nI, Option.isSome_some, Option.getD_some, Bool.or_true, Bool.true_or]; done) | fail) only [e_X1_nounOf_0, e_X1_nounOf_1, e_X1_nounOf_4, e_X1_nounOf_5, e_X1_nounOf_6, e_X1_nounOf_9, e_X1_nounOf_12, e_X1_nounOf_13, e_X1_nounOf_16, e_X1_nounOf_17, e_X1_nounOf_18, e_X1_nounOf_21, e_X1_nounOf_22, hP, rg_18_2 hR, c, nI_cl, q_l0, q_le, if_false, Option.getD_some, Option.bind_some, Option.toList_some, Option.toList_none, List.cons_append, List.nil_append]
theorem x_oo_end (hi : i ≤ 7) : Ev mX2_openOwners 12 [.ref 23, .ref 18, .int x, .int y, .int v, .int (-1), .int (nI i)] [] (71 + e, I, L, R) = some (some (.int v), (71 + e, I, L, R)) := by
  have q7 : (7 : Int32) = nI 7 := rfl
  have m1 : ((-1 : Int32) < 0) = True := by decide
  rw [e_X2_openOwners_12]
  by_cases h : 7 ≤ i
  · simp (disch := first | exact rt_bo_0 | exact rt_bo_1 | exact ns_float | exact ns_int | exact ns_ref | assumption | omega | (simp (disch := omega) only [ob_23, rg_23_0 hR, rg_23_1 hR, rt_in_nI, Option.isSome_some, Option.getD_some, Bool.or_true, Bool.true_or]; done) | fail) only [e_X2_openOwners_0, e_X2_openOwners_1, e_X2_openOwners_3, e_X2_openOwners_4, e_X2_openOwners_7, e_X2_openOwners_9, e_X2_openOwners_10, e_X2_openOwners_14, e_X2_openOwners_16, e_X2_openOwners_19, e_X2_openOwners_21, e_X2_openOwners_24, e_X2_openOwners_25, e_X2_openOwners_27, e_X2_openOwners_30, e_X2_openOwners_31, e_X2_openOwners_34, e_X2_openOwners_36, e_X2_openOwners_37, e_X2_openOwners_39, e_X2_openOwners_40, e_X2_openOwners_41, e_X2_openOwners_42, e_X2_openOwners_43, e_X2_openOwners_45, e_X2_openOwners_47, e_X2_openOwners_50, e_X2_openOwners_51, e_X2_openOwners_54, e_X2_openOwners_56, e_X2_openOwners_57, e_X2_openOwners_58, e_X2_openOwners_61, e_X2_openOwners_63, e_X2_openOwners_64, e_X2_openOwners_65, e_X2_openOwners_67, e_X2_openOwners_68, e_X2_openOwners_69, e_X2_openOwners_72, e_X2_openOwners_73, e_X2_openOwners_74, e_X2_openOwners_76, e_X2_openOwners_79, e_X2_openOwners_82, e_X2_openOwners_84, q7, q_le, h, if_true]
  · simp (disch := first | exact rt_bo_0 | exact rt_bo_1 | exact ns_float | exact ns_int | exact ns_ref | assumption | omega | (simp (disch := omega) only [ob_23, rg_23_0 hR, rg_23_1 hR, rt_in_nI, Option.isSome_some, Option.getD_some, Bool.or_true, Bool.true_or]; done) | fail) only [e_X2_openOwners_0, e_X2_openOwners_1, e_X2_openOwners_3, e_X2_openOwners_4, e_X2_openOwners_7, e_X2_openOwners_9, e_X2_openOwners_10, e_X2_openOwners_14, e_X2_openOwners_16, e_X2_openOwners_19, e_X2_openOwners_21, e_X2_openOwners_24, e_X2_openOwners_25, e_X2_openOwners_27, e_X2_openOwners_30, e_X2_openOwners_31, e_X2_openOwners_34, e_X2_openOwners_36, e_X2_openOwners_37, e_X2_openOwners_39, e_X2_openOwners_40, e_X2_openOwners_41, e_X2_openOwners_42, e_X2_openOwners_43, e_X2_openOwners_45, e_X2_openOwners_47, e_X2_openOwners_50, e_X2_openOwners_51, e_X2_openOwners_54, e_X2_openOwners_56, e_X2_openOwners_57, e_X2_openOwners_58, e_X2_openOwners_61, e_X2_openOwners_63, e_X2_openOwners_64, e_X2_openOwners_65, e_X2_openOwners_67, e_X2_openOwners_68, e_X2_openOwners_69, e_X2_openOwners_72, e_X2_openOwners_73, e_X2_openOwners_74, e_X2_openOwners_76, e_X2_openOwners_79, e_X2_openOwners_82, e_X2_openOwners_84, q7, q_le, h, m1, if_true, if_false]
theorem x_oo_l (hR : RG R a b) (hP : I 18 4 = nI P) (h7 : P ≤ 7) (hOP : O < P) (hN : ∀ k, k < P → (I 21 k = -1) = (K k < 2)) {row : Int32} (hrow : DX row O dg) (hV : syV K O dg) : ∀ m np i acc, np ≤ m → np ≤ O → i + np ≤ 6 → ∃ y, Ev mX2_openOwners 12 [.ref 23, .ref 18, .int row, .int (b01 pl), .int acc, .int (nI np), .int (nI i)] [] (71 + e, I, L, R) = some (some (.int y), (71 + e, I, L, R)) ∧ ∀ j, j < 32 → bt y j = (bt acc j || syT K pl np dg j) := by
  have q7 : (7 : Int32) = nI 7 := rfl
  intro m
  induction m with
  | zero =>
    intro np i acc h1 h2 h3
    have h0 : np = 0 := by omega
    subst h0
    have c7 : ¬ 7 ≤ i := by omega
    have hn := x_nn (e := e) (L := L) (k := 0) hR hP h7 (by omega)
    have hk := hN 0 (by omega)
    rw [nI_0] at hn
    have st1 : ∃ acc2, Ev mX2_openOwners 12 [.ref 23, .ref 18, .int row, .int (b01 pl), .int acc, .int (nI 0), .int (nI i)] [] (71 + e, I, L, R) = Ev mX2_openOwners 45 [.ref 23, .ref 18, .int row, .int (b01 pl), .int acc2, .int 0, .int (nI i)] [] (71 + e, I, L, R) ∧ ∀ j, j < 32 → bt acc2 j = (bt acc j || (decide (j = 0 + 1) && decide (2 ≤ K 0))) := by
      have p0 : ((0 : Int32) < 0) = False := by decide
      have p1 : (0 : Int32) + 1 = nI (0 + 1) := rfl
      rw [nI_0]
      by_cases hK : K 0 < 2
      · refine ⟨acc, ?_, fun j _ => by rw [decide_eq_false (show ¬ 2 ≤ K 0 by omega), Bool.and_false, Bool.or_false]⟩
        rw [eq_true hK] at hk
        rw [e_X2_openOwners_12]
        simp (disch := first | exact rt_bo_0 | exact rt_bo_1 | exact ns_float | exact ns_int | exact ns_ref | assumption | omega | (simp (disch := omega) only [ob_23, rg_23_0 hR, rg_23_1 hR, ob_18, rg_18_0 hR, ar_19, ln_19, rg_18_1 hR, ar_20, ln_20, rg_18_2 hR, ar_21, ln_21, rg_18_3 hR, ar_22, ln_22, rt_in_nI, Option.isSome_some, Option.getD_some, Bool.or_true, Bool.true_or]; done) | fail) only [e_X2_openOwners_0, e_X2_openOwners_1, e_X2_openOwners_3, e_X2_openOwners_4, e_X2_openOwners_7, e_X2_openOwners_9, e_X2_openOwners_10, e_X2_openOwners_14, e_X2_openOwners_16, e_X2_openOwners_19, e_X2_openOwners_21, e_X2_openOwners_24, e_X2_openOwners_25, e_X2_openOwners_27, e_X2_openOwners_30, e_X2_openOwners_31, e_X2_openOwners_34, e_X2_openOwners_36, e_X2_openOwners_37, e_X2_openOwners_39, e_X2_openOwners_40, e_X2_openOwners_41, e_X2_openOwners_42, e_X2_openOwners_43, e_X2_openOwners_47, e_X2_openOwners_50, e_X2_openOwners_51, e_X2_openOwners_54, e_X2_openOwners_56, e_X2_openOwners_57, e_X2_openOwners_58, e_X2_openOwners_61, e_X2_openOwners_63, e_X2_openOwners_64, e_X2_openOwners_65, e_X2_openOwners_67, e_X2_openOwners_68, e_X2_openOwners_69, e_X2_openOwners_72, e_X2_openOwners_73, e_X2_openOwners_74, e_X2_openOwners_76, e_X2_openOwners_79, e_X2_openOwners_82, e_X2_openOwners_84, q7, q_le, c7, p0, hn, hk, if_true, if_false, Option.getD_some, Option.bind_some, Option.toList_some, Option.toList_none, List.cons_append, List.nil_append]
      · refine ⟨acc ||| ((1 : Int32) <<< (nI (0 + 1) &&& 31)), ?_, fun j hj => by rw [b_or, b_one (by omega) hj, decide_eq_true (show 2 ≤ K 0 by omega), Bool.and_true]⟩
        rw [eq_false hK] at hk
        rw [e_X2_openOwners_12]
        simp (disch := first | exact rt_bo_0 | exact rt_bo_1 | exact ns_float | exact ns_int | exact ns_ref | assumption | omega | (simp (disch := omega) only [ob_23, rg_23_0 hR, rg_23_1 hR, ob_18, rg_18_0 hR, ar_19, ln_19, rg_18_1 hR, ar_20, ln_20, rg_18_2 hR, ar_21, ln_21, rg_18_3 hR, ar_22, ln_22, rt_in_nI, Option.isSome_some, Option.getD_some, Bool.or_true, Bool.true_or]; done) | fail) only [e_X2_openOwners_0, e_X2_openOwners_1, e_X2_openOwners_3, e_X2_openOwners_4, e_X2_openOwners_7, e_X2_openOwners_9, e_X2_openOwners_10, e_X2_openOwners_14, e_X2_openOwners_16, e_X2_openOwners_19, e_X2_openOwners_21, e_X2_openOwners_24, e_X2_openOwners_25, e_X2_openOwners_27, e_X2_openOwners_30, e_X2_openOwners_31, e_X2_openOwners_34, e_X2_openOwners_36, e_X2_openOwners_37, e_X2_openOwners_39, e_X2_openOwners_40, e_X2_openOwners_41, e_X2_openOwners_42, e_X2_openOwners_43, e_X2_openOwners_47, e_X2_openOwners_50, e_X2_openOwners_51, e_X2_openOwners_54, e_X2_openOwners_56, e_X2_openOwners_57, e_X2_openOwners_58, e_X2_openOwners_61, e_X2_openOwners_63, e_X2_openOwners_64, e_X2_openOwners_65, e_X2_openOwners_67, e_X2_openOwners_68, e_X2_openOwners_69, e_X2_openOwners_72, e_X2_openOwners_73, e_X2_openOwners_74, e_X2_openOwners_76, e_X2_openOwners_79, e_X2_openOwners_82, e_X2_openOwners_84, q7, q_le, c7, p0, p1, hn, hk, if_true, if_false, Option.getD_some, Option.bind_some, Option.toList_some, Option.toList_none, List.cons_append, List.nil_append]
    obtain ⟨acc2, s1, s2⟩ := st1
    rw [s1, e_X2_openOwners_45]
    have hT : ∀ j, syT K pl 0 dg j = ((decide (j = 0) && pl) || (decide (j = 0 + 1) && decide (2 ≤ K 0))) := by
      intro j
      cases j with
      | zero => simp [syT, syO]
      | succ k =>
        rw [syT, syO]
        by_cases hk0 : k = 0
        · subst hk0; simp
        · simp [hk0]
    cases pl with
    | false =>
      refine ⟨acc2, ?_, fun j hj => by rw [s2 j hj, hT]; simp⟩
      have b0 : b01 false = 0 := rfl
      simp (disch := first | exact rt_bo_0 | exact rt_bo_1 | exact ns_float | exact ns_int | exact ns_ref | assumption | omega | (simp (disch := omega) only [ob_23, rg_23_0 hR, rg_23_1 hR, ob_18, rg_18_0 hR, ar_19, ln_19, rg_18_1 hR, ar_20, ln_20, rg_18_2 hR, ar_21, ln_21, rg_18_3 hR, ar_22, ln_22, rt_in_nI, Option.isSome_some, Option.getD_some, Bool.or_true, Bool.true_or]; done) | fail) only [e_X2_openOwners_0, e_X2_openOwners_1, e_X2_openOwners_3, e_X2_openOwners_4, e_X2_openOwners_7, e_X2_openOwners_9, e_X2_openOwners_10, e_X2_openOwners_14, e_X2_openOwners_16, e_X2_openOwners_19, e_X2_openOwners_21, e_X2_openOwners_24, e_X2_openOwners_25, e_X2_openOwners_27, e_X2_openOwners_30, e_X2_openOwners_31, e_X2_openOwners_34, e_X2_openOwners_36, e_X2_openOwners_37, e_X2_openOwners_39, e_X2_openOwners_40, e_X2_openOwners_41, e_X2_openOwners_42, e_X2_openOwners_43, e_X2_openOwners_47, e_X2_openOwners_50, e_X2_openOwners_51, e_X2_openOwners_54, e_X2_openOwners_56, e_X2_openOwners_57, e_X2_openOwners_58, e_X2_openOwners_61, e_X2_openOwners_63, e_X2_openOwners_64, e_X2_openOwners_65, e_X2_openOwners_67, e_X2_openOwners_68, e_X2_openOwners_69, e_X2_openOwners_72, e_X2_openOwners_73, e_X2_openOwners_74, e_X2_openOwners_76, e_X2_openOwners_79, e_X2_openOwners_82, e_X2_openOwners_84, b0, q_00, if_true]
    | true =>
      refine ⟨acc2 ||| 1, ?_, fun j hj => by rw [b_or, b_1 j hj, s2 j hj, hT, Bool.and_true, Bool.or_assoc, Bool.or_comm (decide (j = 0 + 1) && decide (2 ≤ K 0))]⟩
      have b1 : b01 true = 1 := rfl
      simp (disch := first | exact rt_bo_0 | exact rt_bo_1 | exact ns_float | exact ns_int | exact ns_ref | assumption | omega | (simp (disch := omega) only [ob_23, rg_23_0 hR, rg_23_1 hR, ob_18, rg_18_0 hR, ar_19, ln_19, rg_18_1 hR, ar_20, ln_20, rg_18_2 hR, ar_21, ln_21, rg_18_3 hR, ar_22, ln_22, rt_in_nI, Option.isSome_some, Option.getD_some, Bool.or_true, Bool.true_or]; done) | fail) only [e_X2_openOwners_0, e_X2_openOwners_1, e_X2_openOwners_3, e_X2_openOwners_4, e_X2_openOwners_7, e_X2_openOwners_9, e_X2_openOwners_10, e_X2_openOwners_14, e_X2_openOwners_16, e_X2_openOwners_19, e_X2_openOwners_21, e_X2_openOwners_24, e_X2_openOwners_25, e_X2_openOwners_27, e_X2_openOwners_30, e_X2_openOwners_31, e_X2_openOwners_34, e_X2_openOwners_36, e_X2_openOwners_37, e_X2_openOwners_39, e_X2_openOwners_40, e_X2_openOwners_41, e_X2_openOwners_42, e_X2_openOwners_43, e_X2_openOwners_47, e_X2_openOwners_50, e_X2_openOwners_51, e_X2_openOwners_54, e_X2_openOwners_56, e_X2_openOwners_57, e_X2_openOwners_58, e_X2_openOwners_61, e_X2_openOwners_63, e_X2_openOwners_64, e_X2_openOwners_65, e_X2_openOwners_67, e_X2_openOwners_68, e_X2_openOwners_69, e_X2_openOwners_72, e_X2_openOwners_73, e_X2_openOwners_74, e_X2_openOwners_76, e_X2_openOwners_79, e_X2_openOwners_82, e_X2_openOwners_84, b1, q_00, q_10, if_true, if_false]
  | succ m ih =>
    intro np i acc h1 h2 h3
    by_cases h0 : np = 0
    · exact ih np i acc (by omega) h2 h3
    obtain ⟨m2, rfl⟩ : ∃ m2, np = m2 + 1 := ⟨np - 1, by omega⟩
    have c7 : ¬ 7 ≤ i := by omega
    have hn := x_nn (e := e) (L := L) (k := m2 + 1) hR hP h7 (by omega)
    have hk := hN (m2 + 1) (by omega)
    have st1 : ∃ acc2, Ev mX2_openOwners 12 [.ref 23, .ref 18, .int row, .int (b01 pl), .int acc, .int (nI (m2 + 1)), .int (nI i)] [] (71 + e, I, L, R) = Ev mX2_openOwners 45 [.ref 23, .ref 18, .int row, .int (b01 pl), .int acc2, .int (nI (m2 + 1)), .int (nI i)] [] (71 + e, I, L, R) ∧ ∀ j, j < 32 → bt acc2 j = (bt acc j || (decide (j = m2 + 1 + 1) && decide (2 ≤ K (m2 + 1)))) := by
      by_cases hK : K (m2 + 1) < 2
      · refine ⟨acc, ?_, fun j _ => by rw [decide_eq_false (show ¬ 2 ≤ K (m2 + 1) by omega), Bool.and_false, Bool.or_false]⟩
        rw [eq_true hK] at hk
        rw [e_X2_openOwners_12]
        simp (disch := first | exact rt_bo_0 | exact rt_bo_1 | exact ns_float | exact ns_int | exact ns_ref | assumption | omega | (simp (disch := omega) only [ob_23, rg_23_0 hR, rg_23_1 hR, ob_18, rg_18_0 hR, ar_19, ln_19, rg_18_1 hR, ar_20, ln_20, rg_18_2 hR, ar_21, ln_21, rg_18_3 hR, ar_22, ln_22, rt_in_nI, Option.isSome_some, Option.getD_some, Bool.or_true, Bool.true_or]; done) | fail) only [e_X2_openOwners_0, e_X2_openOwners_1, e_X2_openOwners_3, e_X2_openOwners_4, e_X2_openOwners_7, e_X2_openOwners_9, e_X2_openOwners_10, e_X2_openOwners_14, e_X2_openOwners_16, e_X2_openOwners_19, e_X2_openOwners_21, e_X2_openOwners_24, e_X2_openOwners_25, e_X2_openOwners_27, e_X2_openOwners_30, e_X2_openOwners_31, e_X2_openOwners_34, e_X2_openOwners_36, e_X2_openOwners_37, e_X2_openOwners_39, e_X2_openOwners_40, e_X2_openOwners_41, e_X2_openOwners_42, e_X2_openOwners_43, e_X2_openOwners_47, e_X2_openOwners_50, e_X2_openOwners_51, e_X2_openOwners_54, e_X2_openOwners_56, e_X2_openOwners_57, e_X2_openOwners_58, e_X2_openOwners_61, e_X2_openOwners_63, e_X2_openOwners_64, e_X2_openOwners_65, e_X2_openOwners_67, e_X2_openOwners_68, e_X2_openOwners_69, e_X2_openOwners_72, e_X2_openOwners_73, e_X2_openOwners_74, e_X2_openOwners_76, e_X2_openOwners_79, e_X2_openOwners_82, e_X2_openOwners_84, q7, q_le, q_l0, c7, hn, hk, if_true, if_false, Option.getD_some, Option.bind_some, Option.toList_some, Option.toList_none, List.cons_append, List.nil_append]
      · refine ⟨acc ||| ((1 : Int32) <<< (nI (m2 + 1 + 1) &&& 31)), ?_, fun j hj => by rw [b_or, b_one (by omega) hj, decide_eq_true (show 2 ≤ K (m2 + 1) by omega), Bool.and_true]⟩
        rw [eq_false hK] at hk
        rw [e_X2_openOwners_12]
        simp (disch := first | exact rt_bo_0 | exact rt_bo_1 | exact ns_float | exact ns_int | exact ns_ref | assumption | omega | (simp (disch := omega) only [ob_23, rg_23_0 hR, rg_23_1 hR, ob_18, rg_18_0 hR, ar_19, ln_19, rg_18_1 hR, ar_20, ln_20, rg_18_2 hR, ar_21, ln_21, rg_18_3 hR, ar_22, ln_22, rt_in_nI, Option.isSome_some, Option.getD_some, Bool.or_true, Bool.true_or]; done) | fail) only [e_X2_openOwners_0, e_X2_openOwners_1, e_X2_openOwners_3, e_X2_openOwners_4, e_X2_openOwners_7, e_X2_openOwners_9, e_X2_openOwners_10, e_X2_openOwners_14, e_X2_openOwners_16, e_X2_openOwners_19, e_X2_openOwners_21, e_X2_openOwners_24, e_X2_openOwners_25, e_X2_openOwners_27, e_X2_openOwners_30, e_X2_openOwners_31, e_X2_openOwners_34, e_X2_openOwners_36, e_X2_openOwners_37, e_X2_openOwners_39, e_X2_openOwners_40, e_X2_openOwners_41, e_X2_openOwners_42, e_X2_openOwners_43, e_X2_openOwners_47, e_X2_openOwners_50, e_X2_openOwners_51, e_X2_openOwners_54, e_X2_openOwners_56, e_X2_openOwners_57, e_X2_openOwners_58, e_X2_openOwners_61, e_X2_openOwners_63, e_X2_openOwners_64, e_X2_openOwners_65, e_X2_openOwners_67, e_X2_openOwners_68, e_X2_openOwners_69, e_X2_openOwners_72, e_X2_openOwners_73, e_X2_openOwners_74, e_X2_openOwners_76, e_X2_openOwners_79, e_X2_openOwners_82, e_X2_openOwners_84, q7, q_le, q_l0, c7, hn, hk, q_s, if_true, if_false, Option.getD_some, Option.bind_some, Option.toList_some, Option.toList_none, List.cons_append, List.nil_append]
    obtain ⟨acc2, s1, s2⟩ := st1
    have hne : (nI (m2 + 1) = 0) = False := eq_false (nI_ne0 (by omega) (by omega))
    have hro := hrow m2 (by omega)
    have hpr := nI_pred m2
    rw [s1, e_X2_openOwners_45]
    obtain ⟨v1, v2⟩ := hV m2 (by omega)
    cases hd : dg m2 with
    | zero =>
      have hz : nI 0 - 1 = -1 := by decide
      rw [hd] at hro
      refine ⟨acc2, ?_, fun j hj => ?_⟩
      · simp (disch := first | exact rt_bo_0 | exact rt_bo_1 | exact ns_float | exact ns_int | exact ns_ref | assumption | omega | (simp (disch := omega) only [ob_23, rg_23_0 hR, rg_23_1 hR, ob_18, rg_18_0 hR, ar_19, ln_19, rg_18_1 hR, ar_20, ln_20, rg_18_2 hR, ar_21, ln_21, rg_18_3 hR, ar_22, ln_22, rt_in_nI, Option.isSome_some, Option.getD_some, Bool.or_true, Bool.true_or]; done) | fail) only [e_X2_openOwners_0, e_X2_openOwners_1, e_X2_openOwners_3, e_X2_openOwners_4, e_X2_openOwners_7, e_X2_openOwners_9, e_X2_openOwners_10, e_X2_openOwners_14, e_X2_openOwners_16, e_X2_openOwners_19, e_X2_openOwners_21, e_X2_openOwners_24, e_X2_openOwners_25, e_X2_openOwners_27, e_X2_openOwners_30, e_X2_openOwners_31, e_X2_openOwners_34, e_X2_openOwners_36, e_X2_openOwners_37, e_X2_openOwners_39, e_X2_openOwners_40, e_X2_openOwners_41, e_X2_openOwners_42, e_X2_openOwners_43, e_X2_openOwners_47, e_X2_openOwners_50, e_X2_openOwners_51, e_X2_openOwners_54, e_X2_openOwners_56, e_X2_openOwners_57, e_X2_openOwners_58, e_X2_openOwners_61, e_X2_openOwners_63, e_X2_openOwners_64, e_X2_openOwners_65, e_X2_openOwners_67, e_X2_openOwners_68, e_X2_openOwners_69, e_X2_openOwners_72, e_X2_openOwners_73, e_X2_openOwners_74, e_X2_openOwners_76, e_X2_openOwners_79, e_X2_openOwners_82, e_X2_openOwners_84, e_X2_ownerOf_0, e_X2_ownerOf_1, e_X2_ownerOf_3, e_X2_ownerOf_4, e_X2_ownerOf_5, e_X2_ownerOf_6, e_X2_ownerOf_7, e_X2_ownerOf_8, e_X2_ownerOf_10, e_X2_ownerOf_11, hne, hpr, hro, hz, q_s, if_false, Option.getD_some, Option.bind_some, Option.toList_some, Option.toList_none, List.cons_append, List.nil_append]
        exact x_oo_end (by omega)
      · rw [s2 j hj]
        congr 1
        cases j with
        | zero => rw [syT, syO, hd]; simp
        | succ q =>
          rw [syT, syO, hd]
          by_cases hq : q = m2 + 1
          · subst hq; simp
          · simp [hq]
    | succ k =>
      have hk2 := nI_pred k
      rw [hd] at hro
      obtain ⟨w1, w2⟩ := v2 k hd
      have hkm := syO_le w1
      obtain ⟨y, y1, y2⟩ := ih k (i + 1) acc2 (by omega) (by omega) (by omega)
      refine ⟨y, ?_, fun j hj => ?_⟩
      · simp (disch := first | exact rt_bo_0 | exact rt_bo_1 | exact ns_float | exact ns_int | exact ns_ref | assumption | omega | (simp (disch := omega) only [ob_23, rg_23_0 hR, rg_23_1 hR, ob_18, rg_18_0 hR, ar_19, ln_19, rg_18_1 hR, ar_20, ln_20, rg_18_2 hR, ar_21, ln_21, rg_18_3 hR, ar_22, ln_22, rt_in_nI, Option.isSome_some, Option.getD_some, Bool.or_true, Bool.true_or]; done) | fail) only [e_X2_openOwners_0, e_X2_openOwners_1, e_X2_openOwners_3, e_X2_openOwners_4, e_X2_openOwners_7, e_X2_openOwners_9, e_X2_openOwners_10, e_X2_openOwners_14, e_X2_openOwners_16, e_X2_openOwners_19, e_X2_openOwners_21, e_X2_openOwners_24, e_X2_openOwners_25, e_X2_openOwners_27, e_X2_openOwners_30, e_X2_openOwners_31, e_X2_openOwners_34, e_X2_openOwners_36, e_X2_openOwners_37, e_X2_openOwners_39, e_X2_openOwners_40, e_X2_openOwners_41, e_X2_openOwners_42, e_X2_openOwners_43, e_X2_openOwners_47, e_X2_openOwners_50, e_X2_openOwners_51, e_X2_openOwners_54, e_X2_openOwners_56, e_X2_openOwners_57, e_X2_openOwners_58, e_X2_openOwners_61, e_X2_openOwners_63, e_X2_openOwners_64, e_X2_openOwners_65, e_X2_openOwners_67, e_X2_openOwners_68, e_X2_openOwners_69, e_X2_openOwners_72, e_X2_openOwners_73, e_X2_openOwners_74, e_X2_openOwners_76, e_X2_openOwners_79, e_X2_openOwners_82, e_X2_openOwners_84, e_X2_ownerOf_0, e_X2_ownerOf_1, e_X2_ownerOf_3, e_X2_ownerOf_4, e_X2_ownerOf_5, e_X2_ownerOf_6, e_X2_ownerOf_7, e_X2_ownerOf_8, e_X2_ownerOf_10, e_X2_ownerOf_11, hne, hpr, hro, hk2, q_s, if_false, Option.getD_some, Option.bind_some, Option.toList_some, Option.toList_none, List.cons_append, List.nil_append]
        exact y1
      · rw [y2 j hj, s2 j hj, Bool.or_assoc]
        congr 1
        cases j with
        | zero =>
          rw [syT, syT, syO, hd, decide_eq_false (show ¬ 0 = m2 + 1 by omega), decide_eq_true (show 0 < k + 1 by omega), syO_down w1 (Nat.zero_le k)]
          simp
        | succ q =>
          rw [syT, syT, syO, hd]
          by_cases hq : q = m2 + 1
          · subst hq
            rw [syO_gt (O := k) (by omega)]
            simp
          · rw [decide_eq_false hq, decide_eq_false (show ¬ q + 1 = m2 + 1 + 1 by omega)]
            by_cases hq2 : q < k + 1
            · rw [decide_eq_true hq2, syO_down w1 (show q ≤ k by omega)]
              simp
            · rw [decide_eq_false hq2, syO_gt (O := k) (by omega)]
              simp
theorem x_oo (hR : RG R a b) (hP : I 18 4 = nI P) (h7 : P ≤ 7) (hOP : O < P) (hN : ∀ k, k < P → (I 21 k = -1) = (K k < 2)) {row : Int32} (hrow : DX row O dg) (hV : syV K O dg) (h3 : I 23 3 = nI O) : ∃ y, Ev mX2_openOwners 0 [.ref 23, .ref 18, .int row, .int (b01 pl), .float 0, .float 0, .float 0] [] (71 + e, I, L, R) = some (some (.int y), (71 + e, I, L, R)) ∧ ∀ j, j < 32 → bt y j = syT K pl O dg j := by
  obtain ⟨y, y1, y2⟩ := x_oo_l (e := e) (L := L) (pl := pl) hR hP h7 hOP hN hrow hV O O 0 0 (Nat.le_refl _) (Nat.le_refl _) (by omega)
  refine ⟨y, ?_, fun j hj => by rw [y2 j hj, b_0, Bool.false_or]⟩
  rw [nI_0] at y1
  simp (disch := first | exact rt_bo_0 | exact rt_bo_1 | exact ns_float | exact ns_int | exact ns_ref | assumption | omega | (simp (disch := omega) only [ob_23, rg_23_0 hR, rg_23_1 hR, ob_18, rg_18_0 hR, ar_19, ln_19, rg_18_1 hR, ar_20, ln_20, rg_18_2 hR, ar_21, ln_21, rg_18_3 hR, ar_22, ln_22, rt_in_nI, Option.isSome_some, Option.getD_some, Bool.or_true, Bool.true_or]; done) | fail) only [e_X2_openOwners_0, e_X2_openOwners_1, e_X2_openOwners_3, e_X2_openOwners_4, e_X2_openOwners_7, e_X2_openOwners_9, e_X2_openOwners_10, e_X2_openOwners_14, e_X2_openOwners_16, e_X2_openOwners_19, e_X2_openOwners_21, e_X2_openOwners_24, e_X2_openOwners_25, e_X2_openOwners_27, e_X2_openOwners_30, e_X2_openOwners_31, e_X2_openOwners_34, e_X2_openOwners_36, e_X2_openOwners_37, e_X2_openOwners_39, e_X2_openOwners_40, e_X2_openOwners_41, e_X2_openOwners_42, e_X2_openOwners_43, e_X2_openOwners_45, e_X2_openOwners_47, e_X2_openOwners_50, e_X2_openOwners_51, e_X2_openOwners_54, e_X2_openOwners_56, e_X2_openOwners_57, e_X2_openOwners_58, e_X2_openOwners_61, e_X2_openOwners_63, e_X2_openOwners_64, e_X2_openOwners_65, e_X2_openOwners_67, e_X2_openOwners_68, e_X2_openOwners_69, e_X2_openOwners_72, e_X2_openOwners_73, e_X2_openOwners_74, e_X2_openOwners_76, e_X2_openOwners_79, e_X2_openOwners_82, e_X2_openOwners_84, h3, y1]
theorem x_ext_i (hR : RG R a b) (ha : a = 24 ∨ a = 25) (hb : b = 24 ∨ b = 25) (hab : a ≠ b) (h5 : O ≤ 5) (hr : r < 264) {y : Int32} (hy : ∀ j, j < 32 → bt y j = syT K pl O dg j) {u : Value} : ∀ f o (done : List (Nat → Nat)) I, o + f = 7 → I 23 3 = nI O → I a r = enX O dg → RX I b (enX (O + 1)) done → done.length + (syE K pl O dg o f).length ≤ 264 → ∃ I2, Ev mX2_extend 32 [.ref 23, .ref 18, u, .int (nI done.length), .int (nI r), .int y, .int (nI o)] [] (71 + e, I, L, R) = Ev mX2_extend 91 [.ref 23, .ref 18, u, .int (nI (done ++ syE K pl O dg o f).length), .int (nI r), .int y, .int (nI 7)] [] (71 + e, I2, L, R) ∧ (∀ c, c ≠ b → I2 c = I c) ∧ RX I2 b (enX (O + 1)) (done ++ syE K pl O dg o f) := by
  have q6 : (6 : Int32) = nI 6 := rfl
  have q264 : (264 : Int32) = nI 264 := rfl
  obtain ⟨a1, a2⟩ := ab_ar (e := e) ha
  obtain ⟨b1, b2⟩ := ab_ar (e := e) hb
  have hb23 : (23 : Nat) ≠ b := by omega
  intro f
  induction f with
  | zero =>
    intro o done I ho h3 hrow hX hlen
    have e7 : o = 7 := by omega
    subst e7
    have c6 : (6 : Nat) < 7 := by decide
    refine ⟨I, ?_, fun _ _ => rfl, by rw [syE, List.append_nil]; exact hX⟩
    rw [syE, List.append_nil, e_X2_extend_32]
    simp (disch := first | exact rt_bo_0 | exact rt_bo_1 | exact ns_float | exact ns_int | exact ns_ref | assumption | omega | (simp (disch := omega) only [ob_23, rg_23_0 hR, rg_23_1 hR, rt_in_nI, Option.isSome_some, Option.getD_some, Bool.or_true, Bool.true_or]; done) | fail) only [e_X2_extend_34, e_X2_extend_36, q6, q_lt, c6, if_true]
  | succ f ih =>
    intro o done I ho h3 hrow hX hlen
    have c6 : ¬ 6 < o := by omega
    have hask := b_ask y (show o < 32 by omega)
    rw [hy o (by omega)] at hask
    rw [syE] at hlen ⊢
    by_cases hT : syT K pl O dg o = true
    · rw [if_pos hT] at hlen hask ⊢
      rw [List.length_cons] at hlen
      have c264 : ¬ 264 ≤ done.length := by omega
      have hs := enX_s (dg := dg) h5 (show o < 16 by omega)
      obtain ⟨I2, g1, g2, g3⟩ := ih (o + 1) (done ++ [syU dg O o]) (rt_up I b done.length (enX (O + 1) (syU dg O o))) (by omega) (by rw [rt_up_n1 hb23]; exact h3) (by rw [rt_up_n1 hab]; exact hrow) (RX_snoc hX rfl) (by rw [List.length_append, List.length_singleton]; omega)
      rw [List.append_assoc, List.singleton_append] at g1 g3
      refine ⟨I2, ?_, fun c hc => by rw [g2 c hc, rt_up_f hc], g3⟩
      rw [← g1, List.length_append, List.length_singleton, e_X2_extend_32]
      simp (disch := first | exact rt_bo_0 | exact rt_bo_1 | exact ns_float | exact ns_int | exact ns_ref | assumption | omega | (simp (disch := omega) only [ob_23, rg_23_0 hR, rg_23_1 hR, b1, b2, a1, a2, rt_in_nI, Option.isSome_some, Option.getD_some, Bool.or_true, Bool.true_or]; done) | fail) only [e_X2_extend_0, e_X2_extend_1, e_X2_extend_2, e_X2_extend_3, e_X2_extend_7, e_X2_extend_8, e_X2_extend_11, e_X2_extend_14, e_X2_extend_15, e_X2_extend_16, e_X2_extend_17, e_X2_extend_20, e_X2_extend_22, e_X2_extend_23, e_X2_extend_24, e_X2_extend_27, e_X2_extend_29, e_X2_extend_30, e_X2_extend_34, e_X2_extend_36, e_X2_extend_39, e_X2_extend_41, e_X2_extend_43, e_X2_extend_44, e_X2_extend_45, e_X2_extend_46, e_X2_extend_49, e_X2_extend_50, e_X2_extend_53, e_X2_extend_56, e_X2_extend_57, e_X2_extend_60, e_X2_extend_61, e_X2_extend_62, e_X2_extend_65, e_X2_extend_67, e_X2_extend_68, e_X2_extend_70, e_X2_extend_72, e_X2_extend_73, e_X2_extend_74, e_X2_extend_77, e_X2_extend_78, e_X2_extend_79, e_X2_extend_80, e_X2_extend_81, e_X2_extend_82, e_X2_extend_85, e_X2_extend_88, e_X2_extend_94, e_X2_extend_97, e_X2_extend_98, e_X2_extend_101, e_X2_extend_103, e_X2_extend_104, e_X2_extend_105, e_X2_extend_108, e_X2_extend_111, e_X2_extend_112, e_X2_extend_114, e_X2_extend_117, e_X2_extend_118, e_X2_extend_119, e_X2_extend_122, e_X2_extend_123, e_X2_extend_124, e_X2_extend_127, e_X2_extend_128, e_X2_extend_129, e_X2_extend_132, e_X2_extend_133, e_X2_extend_136, e_X2_extend_139, e_X2_extend_140, e_X2_extend_143, e_X2_extend_144, rg_23_0 hR, rg_23_1 hR, q6, q264, q_lt, q_le, c6, c264, hask, q_10, h3, hrow, nI_cl, hs, q_s, if_true, if_false, Option.getD_some, Option.bind_some, Option.toList_some, Option.toList_none, List.cons_append, List.nil_append]
    · rw [if_neg hT] at hlen hask ⊢
      obtain ⟨I2, g1, g2, g3⟩ := ih (o + 1) done I (by omega) h3 hrow hX hlen
      refine ⟨I2, ?_, g2, g3⟩
      rw [← g1, e_X2_extend_32]
      simp (disch := first | exact rt_bo_0 | exact rt_bo_1 | exact ns_float | exact ns_int | exact ns_ref | assumption | omega | (simp (disch := omega) only [ob_23, rg_23_0 hR, rg_23_1 hR, b1, b2, a1, a2, rt_in_nI, Option.isSome_some, Option.getD_some, Bool.or_true, Bool.true_or]; done) | fail) only [e_X2_extend_0, e_X2_extend_1, e_X2_extend_2, e_X2_extend_3, e_X2_extend_7, e_X2_extend_8, e_X2_extend_11, e_X2_extend_14, e_X2_extend_15, e_X2_extend_16, e_X2_extend_17, e_X2_extend_20, e_X2_extend_22, e_X2_extend_23, e_X2_extend_24, e_X2_extend_27, e_X2_extend_29, e_X2_extend_30, e_X2_extend_34, e_X2_extend_36, e_X2_extend_39, e_X2_extend_41, e_X2_extend_43, e_X2_extend_44, e_X2_extend_45, e_X2_extend_46, e_X2_extend_49, e_X2_extend_50, e_X2_extend_53, e_X2_extend_56, e_X2_extend_57, e_X2_extend_60, e_X2_extend_61, e_X2_extend_62, e_X2_extend_65, e_X2_extend_67, e_X2_extend_68, e_X2_extend_70, e_X2_extend_72, e_X2_extend_73, e_X2_extend_74, e_X2_extend_77, e_X2_extend_78, e_X2_extend_79, e_X2_extend_80, e_X2_extend_81, e_X2_extend_82, e_X2_extend_85, e_X2_extend_88, e_X2_extend_94, e_X2_extend_97, e_X2_extend_98, e_X2_extend_101, e_X2_extend_103, e_X2_extend_104, e_X2_extend_105, e_X2_extend_108, e_X2_extend_111, e_X2_extend_112, e_X2_extend_114, e_X2_extend_117, e_X2_extend_118, e_X2_extend_119, e_X2_extend_122, e_X2_extend_123, e_X2_extend_124, e_X2_extend_127, e_X2_extend_128, e_X2_extend_129, e_X2_extend_132, e_X2_extend_133, e_X2_extend_136, e_X2_extend_139, e_X2_extend_140, e_X2_extend_143, e_X2_extend_144, q6, q_lt, c6, hask, q_00, q_s, if_true, if_false, Option.getD_some, Option.bind_some, Option.toList_some, Option.toList_none, List.cons_append, List.nil_append]
theorem syV_16 (h : syV K O dg) (h5 : O ≤ 6) : ∀ i, i < O → dg i < 16 := fun i hi => by have := (h i hi).1; omega
theorem x_ext_o (hR : RG R a b) (ha : a = 24 ∨ a = 25) (hb : b = 24 ∨ b = 25) (hab : a ≠ b) (h5 : O ≤ 5) (hP : I0 18 4 = nI P) (h7 : P ≤ 7) (hOP : O < P) (hN : ∀ k, k < P → (I0 21 k = -1) = (K k < 2)) (h2 : I0 23 2 = nI W.length) (h3 : I0 23 3 = nI O) (hW2 : W.length ≤ 264) (hV : ∀ d, d ∈ W → syV K O d) (hX0 : RX I0 a (enX O) W) : ∀ (rest : List (Nat → Nat)) r (done : List (Nat → Nat)) I u5 u6, W.drop r = rest → r ≤ W.length → (∀ c, c ≠ b → I c = I0 c) → RX I b (enX (O + 1)) done → done.length + (syW K pl O rest).length ≤ 264 → rt_ns u5 = true → rt_ns u6 = true → ∃ I2 v5 v6, Ev mX2_extend 5 [.ref 23, .ref 18, .int (b01 pl), .int (nI done.length), .int (nI r), u5, u6] [] (71 + e, I, L, R) = Ev mX2_extend 97 [.ref 23, .ref 18, .int (b01 pl), .int (nI (done ++ syW K pl O rest).length), .int (nI W.length), v5, v6] [] (71 + e, I2, L, R) ∧ (∀ c, c ≠ b → I2 c = I0 c) ∧ RX I2 b (enX (O + 1)) (done ++ syW K pl O rest) := by
  obtain ⟨a1, a2⟩ := ab_ar (e := e) ha
  intro rest
  induction rest with
  | nil =>
    intro r done I u5 u6 hd hr hI hX hlen n5 n6
    have hr2 : r = W.length := by
      have := List.drop_eq_nil_iff.mp hd
      omega
    subst hr2
    have e2 : I 23 2 = nI W.length := by rw [hI 23 (by omega)]; exact h2
    refine ⟨I, u5, u6, ?_, hI, by rw [syW, List.flatMap_nil, List.append_nil]; exact hX⟩
    rw [syW, List.flatMap_nil, List.append_nil, e_X2_extend_5]
    simp (disch := first | exact rt_bo_0 | exact rt_bo_1 | exact ns_float | exact ns_int | exact ns_ref | assumption | omega | (simp (disch := omega) only [ob_23, rg_23_0 hR, rg_23_1 hR, rt_in_nI, Option.isSome_some, Option.getD_some, Bool.or_true, Bool.true_or]; done) | fail) only [e_X2_extend_7, e_X2_extend_8, e_X2_extend_11, e2, q_le, Nat.le_refl, if_true]
  | cons dg rest ih =>
    intro r done I u5 u6 hd hr hI hX hlen n5 n6
    obtain ⟨d1, d2⟩ := drop_cs hd
    have hr2 : r < W.length := (List.getElem?_eq_some_iff.mp d1).1
    have c1 : ¬ W.length ≤ r := by omega
    have e2 : I 23 2 = nI W.length := by rw [hI 23 (by omega)]; exact h2
    have e3 : I 23 3 = nI O := by rw [hI 23 (by omega)]; exact h3
    have hrow : I a r = enX O dg := by rw [hI a hab]; exact hX0 r dg d1
    have hVd := hV dg (List.mem_of_getElem? d1)
    obtain ⟨y, y1, y2⟩ := x_oo (e := e) (I := I) (L := L) (pl := pl) hR (by rw [hI 18 (by omega)]; exact hP) h7 hOP (by rw [hI 21 (by omega)]; exact hN) (enX_DX (by omega) (syV_16 hVd (by omega))) hVd e3
    have hsp : syW K pl O (dg :: rest) = syE K pl O dg 0 7 ++ syW K pl O rest := by unfold syW; rw [List.flatMap_cons]
    rw [hsp, List.length_append] at hlen
    obtain ⟨IB, g1, g2, g3⟩ := x_ext_i (e := e) (L := L) (u := .int (b01 pl)) (r := r) hR ha hb hab h5 (by omega) y2 7 0 done I (by omega) e3 hrow hX (by omega)
    obtain ⟨I2, v5, v6, k1, k2, k3⟩ := ih (r + 1) (done ++ syE K pl O dg 0 7) IB (.int y) (.int (nI 7)) d2 (by omega) (fun c hc => by rw [g2 c hc, hI c hc]) g3 (by rw [List.length_append]; omega) ns_int ns_int
    rw [List.append_assoc, ← hsp] at k1 k3
    refine ⟨I2, v5, v6, ?_, k2, k3⟩
    rw [← k1, e_X2_extend_5]
    rw [nI_0] at g1
    simp (disch := first | exact rt_bo_0 | exact rt_bo_1 | exact ns_float | exact ns_int | exact ns_ref | assumption | omega | (simp (disch := omega) only [ob_23, rg_23_0 hR, rg_23_1 hR, ob_18, rg_18_0 hR, ar_19, ln_19, rg_18_1 hR, ar_20, ln_20, rg_18_2 hR, ar_21, ln_21, rg_18_3 hR, ar_22, ln_22, a1, a2, rt_in_nI, Option.isSome_some, Option.getD_some, Bool.or_true, Bool.true_or]; done) | fail) only [e_X2_extend_0, e_X2_extend_1, e_X2_extend_2, e_X2_extend_3, e_X2_extend_7, e_X2_extend_8, e_X2_extend_11, e_X2_extend_14, e_X2_extend_15, e_X2_extend_16, e_X2_extend_17, e_X2_extend_20, e_X2_extend_22, e_X2_extend_23, e_X2_extend_24, e_X2_extend_27, e_X2_extend_29, e_X2_extend_30, e_X2_extend_34, e_X2_extend_36, e_X2_extend_39, e_X2_extend_41, e_X2_extend_43, e_X2_extend_44, e_X2_extend_45, e_X2_extend_46, e_X2_extend_49, e_X2_extend_50, e_X2_extend_53, e_X2_extend_56, e_X2_extend_57, e_X2_extend_60, e_X2_extend_61, e_X2_extend_62, e_X2_extend_65, e_X2_extend_67, e_X2_extend_68, e_X2_extend_70, e_X2_extend_72, e_X2_extend_73, e_X2_extend_74, e_X2_extend_77, e_X2_extend_78, e_X2_extend_79, e_X2_extend_80, e_X2_extend_81, e_X2_extend_82, e_X2_extend_85, e_X2_extend_88, e_X2_extend_91, e_X2_extend_94, e_X2_extend_98, e_X2_extend_101, e_X2_extend_103, e_X2_extend_104, e_X2_extend_105, e_X2_extend_108, e_X2_extend_111, e_X2_extend_112, e_X2_extend_114, e_X2_extend_117, e_X2_extend_118, e_X2_extend_119, e_X2_extend_122, e_X2_extend_123, e_X2_extend_124, e_X2_extend_127, e_X2_extend_128, e_X2_extend_129, e_X2_extend_132, e_X2_extend_133, e_X2_extend_136, e_X2_extend_139, e_X2_extend_140, e_X2_extend_143, e_X2_extend_144, rg_23_0 hR, e2, q_le, c1, hrow, y1, g1, nI_cl, q_s, if_false, Option.getD_some, Option.bind_some, Option.toList_some, Option.toList_none, List.cons_append, List.nil_append]
theorem x_extend (hR : RG R a b) (ha : a = 24 ∨ a = 25) (hb : b = 24 ∨ b = 25) (hab : a ≠ b) (h5 : O ≤ 5) (hP : I 18 4 = nI P) (h7 : P ≤ 7) (hOP : O < P) (hN : ∀ k, k < P → (I 21 k = -1) = (K k < 2)) (h2 : I 23 2 = nI W.length) (h3 : I 23 3 = nI O) (hW2 : W.length ≤ 264) (hV : ∀ d, d ∈ W → syV K O d) (hX0 : RX I a (enX O) W) (hlen : (syW K pl O W).length ≤ 264) : ∃ I2 R2, Ev mX2_extend 0 [.ref 23, .ref 18, .int (b01 pl), .float 0, .float 0, .float 0, .float 0] [] (71 + e, I, L, R) = some (some (.int (b01 (decide (0 < (syW K pl O W).length)))), (71 + e, I2, L, R2)) ∧ RG R2 b a ∧ (∀ c, c ≠ 23 → R2 c = R c) ∧ (∀ c, c ≠ b → c ≠ 23 → I2 c = I c) ∧ I2 23 2 = nI (syW K pl O W).length ∧ I2 23 3 = nI (O + 1) ∧ RX I2 b (enX (O + 1)) (syW K pl O W) := by
  obtain ⟨I2, v5, v6, k1, k2, k3⟩ := x_ext_o (e := e) (L := L) (pl := pl) hR ha hb hab h5 hP h7 hOP hN h2 h3 hW2 hV hX0 W 0 [] I (.float 0) (.float 0) rfl (by omega) (fun _ _ => rfl) RX_nil (by rw [List.length_nil]; omega) ns_float ns_float
  rw [List.nil_append, List.length_nil, nI_0] at k1
  rw [List.nil_append] at k3
  have hb23 : b ≠ 23 := by omega
  have e3 : I2 23 3 = nI O := by rw [k2 23 (by omega)]; exact h3
  refine ⟨rt_up (rt_up I2 23 2 (nI (syW K pl O W).length)) 23 3 (nI (O + 1)), rt_up (rt_up R 23 1 (some a)) 23 0 (some b), ?_, RG_sw hR, fun c hc => by rw [rt_up_f hc, rt_up_f hc], fun c h1 h2 => by rw [rt_up_f h2, rt_up_f h2, k2 c h1], by rw [rt_up_n2 (by decide), rt_up_eq], rt_up_eq, RX_fr k3 (by rw [rt_up_f hb23, rt_up_f hb23])⟩
  have hz : (nI (syW K pl O W).length ≤ 0) = ((syW K pl O W).length ≤ 0) := by rw [← nI_0, q_le (by omega) (by omega)]
  by_cases h0 : (syW K pl O W).length ≤ 0
  · rw [decide_eq_false (by omega)]
    rw [eq_true h0] at hz
    simp (disch := first | exact rt_bo_0 | exact rt_bo_1 | exact ns_float | exact ns_int | exact ns_ref | assumption | omega | (simp (disch := omega) only [ob_23, rg_23_0 hR, rg_23_1 hR, rt_in_nI, Option.isSome_some, Option.getD_some, Bool.or_true, Bool.true_or]; done) | fail) only [e_X2_extend_0, e_X2_extend_1, e_X2_extend_2, e_X2_extend_3, e_X2_extend_7, e_X2_extend_8, e_X2_extend_11, e_X2_extend_14, e_X2_extend_15, e_X2_extend_16, e_X2_extend_17, e_X2_extend_20, e_X2_extend_22, e_X2_extend_23, e_X2_extend_24, e_X2_extend_27, e_X2_extend_29, e_X2_extend_30, e_X2_extend_32, e_X2_extend_34, e_X2_extend_36, e_X2_extend_39, e_X2_extend_41, e_X2_extend_43, e_X2_extend_44, e_X2_extend_45, e_X2_extend_46, e_X2_extend_49, e_X2_extend_50, e_X2_extend_53, e_X2_extend_56, e_X2_extend_57, e_X2_extend_60, e_X2_extend_61, e_X2_extend_62, e_X2_extend_65, e_X2_extend_67, e_X2_extend_68, e_X2_extend_70, e_X2_extend_72, e_X2_extend_73, e_X2_extend_74, e_X2_extend_77, e_X2_extend_78, e_X2_extend_79, e_X2_extend_80, e_X2_extend_81, e_X2_extend_82, e_X2_extend_85, e_X2_extend_88, e_X2_extend_91, e_X2_extend_94, e_X2_extend_97, e_X2_extend_98, e_X2_extend_101, e_X2_extend_103, e_X2_extend_104, e_X2_extend_105, e_X2_extend_108, e_X2_extend_111, e_X2_extend_112, e_X2_extend_114, e_X2_extend_117, e_X2_extend_118, e_X2_extend_119, e_X2_extend_122, e_X2_extend_123, e_X2_extend_124, e_X2_extend_127, e_X2_extend_128, e_X2_extend_129, e_X2_extend_132, e_X2_extend_133, e_X2_extend_136, e_X2_extend_139, e_X2_extend_140, e_X2_extend_143, e_X2_extend_144, k1, rg_23_0 hR, rg_23_1 hR, rt_up_n2, rt_up_eq, e3, q_s, hz, if_true, Option.getD_some, Option.bind_some, Option.toList_some, Option.toList_none, List.cons_append, List.nil_append]
    rfl
  · rw [decide_eq_true (by omega)]
    rw [eq_false h0] at hz
    simp (disch := first | exact rt_bo_0 | exact rt_bo_1 | exact ns_float | exact ns_int | exact ns_ref | assumption | omega | (simp (disch := omega) only [ob_23, rg_23_0 hR, rg_23_1 hR, rt_in_nI, Option.isSome_some, Option.getD_some, Bool.or_true, Bool.true_or]; done) | fail) only [e_X2_extend_0, e_X2_extend_1, e_X2_extend_2, e_X2_extend_3, e_X2_extend_7, e_X2_extend_8, e_X2_extend_11, e_X2_extend_14, e_X2_extend_15, e_X2_extend_16, e_X2_extend_17, e_X2_extend_20, e_X2_extend_22, e_X2_extend_23, e_X2_extend_24, e_X2_extend_27, e_X2_extend_29, e_X2_extend_30, e_X2_extend_32, e_X2_extend_34, e_X2_extend_36, e_X2_extend_39, e_X2_extend_41, e_X2_extend_43, e_X2_extend_44, e_X2_extend_45, e_X2_extend_46, e_X2_extend_49, e_X2_extend_50, e_X2_extend_53, e_X2_extend_56, e_X2_extend_57, e_X2_extend_60, e_X2_extend_61, e_X2_extend_62, e_X2_extend_65, e_X2_extend_67, e_X2_extend_68, e_X2_extend_70, e_X2_extend_72, e_X2_extend_73, e_X2_extend_74, e_X2_extend_77, e_X2_extend_78, e_X2_extend_79, e_X2_extend_80, e_X2_extend_81, e_X2_extend_82, e_X2_extend_85, e_X2_extend_88, e_X2_extend_91, e_X2_extend_94, e_X2_extend_97, e_X2_extend_98, e_X2_extend_101, e_X2_extend_103, e_X2_extend_104, e_X2_extend_105, e_X2_extend_108, e_X2_extend_111, e_X2_extend_112, e_X2_extend_114, e_X2_extend_117, e_X2_extend_118, e_X2_extend_119, e_X2_extend_122, e_X2_extend_123, e_X2_extend_124, e_X2_extend_127, e_X2_extend_128, e_X2_extend_129, e_X2_extend_132, e_X2_extend_133, e_X2_extend_136, e_X2_extend_139, e_X2_extend_140, e_X2_extend_143, e_X2_extend_144, k1, rg_23_0 hR, rg_23_1 hR, rt_up_n2, rt_up_eq, e3, q_s, hz, if_false, Option.getD_some, Option.bind_some, Option.toList_some, Option.toList_none, List.cons_append, List.nil_append]
    rfl
theorem plc_O (h6 : O ≤ 6) : (plc O d = -1) = (syO d O 0 = true) := by
  by_cases h : syO d O 0 = true
  · rw [plc_none (syO_0.mp h), eq_true h]; simp
  · rw [eq_false h]
    have : ∃ i, i < O ∧ d i = 0 := by
      apply Classical.byContradiction
      intro hh
      exact h (syO_0.mpr (fun i hi h0 => hh ⟨i, hi, h0⟩))
    obtain ⟨p1, p2, -⟩ := plc_some h6 this
    rw [p2, q_e1 (by omega)]
theorem x_keep_l (hR : RG R a b) (ha : a = 24 ∨ a = 25) (h6 : O ≤ 6) (h2 : I0 23 2 = nI W.length) (h3 : I0 23 3 = nI O) (hW2 : W.length ≤ 264) (hV : ∀ d, d ∈ W → syV K O d) (hX0 : RX I0 a (enX O) W) : ∀ (rest : List (Nat → Nat)) r (done : List (Nat → Nat)) I, W.drop r = rest → r ≤ W.length → done.length ≤ r → (∀ c, c ≠ a → I c = I0 c) → (∀ k, r ≤ k → I a k = I0 a k) → RX I a (enX O) done → ∃ I2, Ev mX2_keep 4 [.ref 23, .int (b01 has), .int (nI done.length), .int (nI r)] [] (71 + e, I, L, R) = Ev mX2_keep 56 [.ref 23, .int (b01 has), .int (nI (done ++ rest.filter (fun d => (!syO d O 0) == has)).length), .int (nI W.length)] [] (71 + e, I2, L, R) ∧ (∀ c, c ≠ a → I2 c = I0 c) ∧ RX I2 a (enX O) (done ++ rest.filter (fun d => (!syO d O 0) == has)) := by
  obtain ⟨a1, a2⟩ := ab_ar (e := e) ha
  have ha23 : (23 : Nat) ≠ a := by omega
  intro rest
  induction rest with
  | nil =>
    intro r done I hd hr hdl hI hIa hX
    have hr2 : r = W.length := by
      have := List.drop_eq_nil_iff.mp hd
      omega
    subst hr2
    have e2 : I 23 2 = nI W.length := by rw [hI 23 ha23]; exact h2
    refine ⟨I, ?_, hI, by rw [List.filter_nil, List.append_nil]; exact hX⟩
    rw [List.filter_nil, List.append_nil, e_X2_keep_4]
    simp (disch := first | exact rt_bo_0 | exact rt_bo_1 | exact ns_float | exact ns_int | exact ns_ref | assumption | omega | (simp (disch := omega) only [ob_23, rg_23_0 hR, rg_23_1 hR, rt_in_nI, Option.isSome_some, Option.getD_some, Bool.or_true, Bool.true_or]; done) | fail) only [e_X2_keep_5, e_X2_keep_6, e_X2_keep_9, e2, q_le, Nat.le_refl, if_true]
  | cons d rest ih =>
    intro r done I hd hr hdl hI hIa hX
    obtain ⟨d1, d2⟩ := drop_cs hd
    have hr2 : r < W.length := (List.getElem?_eq_some_iff.mp d1).1
    have c1 : ¬ W.length ≤ r := by omega
    have e2 : I 23 2 = nI W.length := by rw [hI 23 ha23]; exact h2
    have e3 : I 23 3 = nI O := by rw [hI 23 ha23]; exact h3
    have hrow : I a r = enX O d := by rw [hIa r (Nat.le_refl _)]; exact hX0 r d d1
    have hVd := hV d (List.mem_of_getElem? d1)
    have hp := x_plc (e := e) (L := L) hR e3 h6 (enX_DX h6 (syV_16 hVd h6)) (fun i hi => (hVd i hi).1)
    have hq := plc_O (d := d) h6
    rw [List.filter_cons]
    have t10 : ((1 : Int32) = 0) = False := by decide
    have t01 : ((0 : Int32) = 1) = False := by decide
    have t11 : ((1 : Int32) = 1) = True := by decide
    have b0 : b01 false = 0 := rfl
    have b1 : b01 true = 1 := rfl
    by_cases hh : ((!syO d O 0) == has) = true
    · rw [if_pos hh]
      obtain ⟨I2, g1, g2, g3⟩ := ih (r + 1) (done ++ [d]) (rt_up I a done.length (enX O d)) d2 (by omega) (by rw [List.length_append, List.length_singleton]; omega) (fun c hc => by rw [rt_up_f hc, hI c hc]) (fun k hk => by rw [rt_up_n2 (by omega)]; exact hIa k (by omega)) (RX_snoc hX rfl)
      rw [List.append_assoc, List.singleton_append] at g1 g3
      refine ⟨I2, ?_, g2, g3⟩
      rw [← g1, List.length_append, List.length_singleton, e_X2_keep_4]
      have hh2 : has = !syO d O 0 := by simpa using (eq_comm.mp (eq_of_beq hh))
      cases hs : syO d O 0 with
      | true =>
        rw [hs] at hq hh2
        rw [eq_true rfl] at hq
        rw [hh2, Bool.not_true, b0]
        simp (disch := first | exact rt_bo_0 | exact rt_bo_1 | exact ns_float | exact ns_int | exact ns_ref | assumption | omega | (simp (disch := omega) only [ob_23, rg_23_0 hR, rg_23_1 hR, a1, a2, rt_in_nI, Option.isSome_some, Option.getD_some, Bool.or_true, Bool.true_or]; done) | fail) only [e_X2_keep_0, e_X2_keep_1, e_X2_keep_2, e_X2_keep_3, e_X2_keep_5, e_X2_keep_6, e_X2_keep_9, e_X2_keep_12, e_X2_keep_13, e_X2_keep_14, e_X2_keep_17, e_X2_keep_18, e_X2_keep_19, e_X2_keep_22, e_X2_keep_23, e_X2_keep_26, e_X2_keep_27, e_X2_keep_30, e_X2_keep_31, e_X2_keep_32, e_X2_keep_35, e_X2_keep_36, e_X2_keep_39, e_X2_keep_40, e_X2_keep_41, e_X2_keep_44, e_X2_keep_45, e_X2_keep_46, e_X2_keep_47, e_X2_keep_50, e_X2_keep_53, e_X2_keep_57, e_X2_keep_58, e_X2_keep_61, e_X2_keep_62, e_X2_keep_65, e_X2_keep_68, e_X2_keep_69, e_X2_keep_72, e_X2_keep_73, rg_23_0 hR, e2, q_le, c1, hrow, hp, hq, nI_cl, q_s, q_00, if_true, if_false, Option.getD_some, Option.bind_some, Option.toList_some, Option.toList_none, List.cons_append, List.nil_append]
      | false =>
        rw [hs] at hq hh2
        have hq2 : (plc O d = -1) = False := by rw [hq]; simp
        rw [hh2, Bool.not_false, b1]
        simp (disch := first | exact rt_bo_0 | exact rt_bo_1 | exact ns_float | exact ns_int | exact ns_ref | assumption | omega | (simp (disch := omega) only [ob_23, rg_23_0 hR, rg_23_1 hR, a1, a2, rt_in_nI, Option.isSome_some, Option.getD_some, Bool.or_true, Bool.true_or]; done) | fail) only [e_X2_keep_0, e_X2_keep_1, e_X2_keep_2, e_X2_keep_3, e_X2_keep_5, e_X2_keep_6, e_X2_keep_9, e_X2_keep_12, e_X2_keep_13, e_X2_keep_14, e_X2_keep_17, e_X2_keep_18, e_X2_keep_19, e_X2_keep_22, e_X2_keep_23, e_X2_keep_26, e_X2_keep_27, e_X2_keep_30, e_X2_keep_31, e_X2_keep_32, e_X2_keep_35, e_X2_keep_36, e_X2_keep_39, e_X2_keep_40, e_X2_keep_41, e_X2_keep_44, e_X2_keep_45, e_X2_keep_46, e_X2_keep_47, e_X2_keep_50, e_X2_keep_53, e_X2_keep_57, e_X2_keep_58, e_X2_keep_61, e_X2_keep_62, e_X2_keep_65, e_X2_keep_68, e_X2_keep_69, e_X2_keep_72, e_X2_keep_73, rg_23_0 hR, e2, q_le, c1, hrow, hp, hq2, nI_cl, q_s, t11, if_true, if_false, Option.getD_some, Option.bind_some, Option.toList_some, Option.toList_none, List.cons_append, List.nil_append]
    · rw [if_neg hh]
      obtain ⟨I2, g1, g2, g3⟩ := ih (r + 1) done I d2 (by omega) (by omega) hI (fun k hk => hIa k (by omega)) hX
      refine ⟨I2, ?_, g2, g3⟩
      rw [← g1, e_X2_keep_4]
      have hh2 : has = syO d O 0 := by cases has <;> cases hs : syO d O 0 <;> simp [hs] at hh ⊢
      cases hs : syO d O 0 with
      | true =>
        rw [hs] at hq hh2
        rw [eq_true rfl] at hq
        rw [hh2, b1]
        simp (disch := first | exact rt_bo_0 | exact rt_bo_1 | exact ns_float | exact ns_int | exact ns_ref | assumption | omega | (simp (disch := omega) only [ob_23, rg_23_0 hR, rg_23_1 hR, a1, a2, rt_in_nI, Option.isSome_some, Option.getD_some, Bool.or_true, Bool.true_or]; done) | fail) only [e_X2_keep_0, e_X2_keep_1, e_X2_keep_2, e_X2_keep_3, e_X2_keep_5, e_X2_keep_6, e_X2_keep_9, e_X2_keep_12, e_X2_keep_13, e_X2_keep_14, e_X2_keep_17, e_X2_keep_18, e_X2_keep_19, e_X2_keep_22, e_X2_keep_23, e_X2_keep_26, e_X2_keep_27, e_X2_keep_30, e_X2_keep_31, e_X2_keep_32, e_X2_keep_35, e_X2_keep_36, e_X2_keep_39, e_X2_keep_40, e_X2_keep_41, e_X2_keep_44, e_X2_keep_45, e_X2_keep_46, e_X2_keep_47, e_X2_keep_50, e_X2_keep_53, e_X2_keep_57, e_X2_keep_58, e_X2_keep_61, e_X2_keep_62, e_X2_keep_65, e_X2_keep_68, e_X2_keep_69, e_X2_keep_72, e_X2_keep_73, rg_23_0 hR, e2, q_le, c1, hrow, hp, hq, nI_cl, q_s, t01, if_true, if_false, Option.getD_some, Option.bind_some, Option.toList_some, Option.toList_none, List.cons_append, List.nil_append]
      | false =>
        rw [hs] at hq hh2
        have hq2 : (plc O d = -1) = False := by rw [hq]; simp
        rw [hh2, b0]
        simp (disch := first | exact rt_bo_0 | exact rt_bo_1 | exact ns_float | exact ns_int | exact ns_ref | assumption | omega | (simp (disch := omega) only [ob_23, rg_23_0 hR, rg_23_1 hR, a1, a2, rt_in_nI, Option.isSome_some, Option.getD_some, Bool.or_true, Bool.true_or]; done) | fail) only [e_X2_keep_0, e_X2_keep_1, e_X2_keep_2, e_X2_keep_3, e_X2_keep_5, e_X2_keep_6, e_X2_keep_9, e_X2_keep_12, e_X2_keep_13, e_X2_keep_14, e_X2_keep_17, e_X2_keep_18, e_X2_keep_19, e_X2_keep_22, e_X2_keep_23, e_X2_keep_26, e_X2_keep_27, e_X2_keep_30, e_X2_keep_31, e_X2_keep_32, e_X2_keep_35, e_X2_keep_36, e_X2_keep_39, e_X2_keep_40, e_X2_keep_41, e_X2_keep_44, e_X2_keep_45, e_X2_keep_46, e_X2_keep_47, e_X2_keep_50, e_X2_keep_53, e_X2_keep_57, e_X2_keep_58, e_X2_keep_61, e_X2_keep_62, e_X2_keep_65, e_X2_keep_68, e_X2_keep_69, e_X2_keep_72, e_X2_keep_73, rg_23_0 hR, e2, q_le, c1, hrow, hp, hq2, nI_cl, q_s, t10, if_true, if_false, Option.getD_some, Option.bind_some, Option.toList_some, Option.toList_none, List.cons_append, List.nil_append]
/-- rows with a place (has), or without -/
def syF (has : Bool) (O : Nat) (W : List (Nat → Nat)) : List (Nat → Nat) := W.filter (fun d => (!syO d O 0) == has)
theorem x_keep (hR : RG R a b) (ha : a = 24 ∨ a = 25) (h6 : O ≤ 6) (h2 : I 23 2 = nI W.length) (h3 : I 23 3 = nI O) (hW2 : W.length ≤ 264) (hV : ∀ d, d ∈ W → syV K O d) (hX0 : RX I a (enX O) W) : ∃ I2, Ev mX2_keep 0 [.ref 23, .int (b01 has), .float 0, .float 0] [] (71 + e, I, L, R) = some (some (.int (b01 (decide (0 < (syF has O W).length)))), (71 + e, I2, L, R)) ∧ (∀ c, c ≠ a → c ≠ 23 → I2 c = I c) ∧ I2 23 2 = nI (syF has O W).length ∧ I2 23 3 = nI O ∧ RX I2 a (enX O) (syF has O W) := by
  obtain ⟨I2, k1, k2, k3⟩ := x_keep_l (e := e) (L := L) (has := has) hR ha h6 h2 h3 hW2 hV hX0 W 0 [] I rfl (by omega) (Nat.le_refl _) (fun _ _ => rfl) (fun _ _ => rfl) RX_nil
  rw [List.nil_append, List.length_nil, nI_0] at k1
  rw [List.nil_append] at k3
  change RX I2 a (enX O) (syF has O W) at k3
  change Ev mX2_keep 4 _ _ _ = Ev mX2_keep 56 [.ref 23, .int (b01 has), .int (nI (syF has O W).length), .int (nI W.length)] [] (71 + e, I2, L, R) at k1
  have ha23 : (23 : Nat) ≠ a := by omega
  have hlen : (syF has O W).length ≤ W.length := List.length_filter_le _ _
  refine ⟨rt_up I2 23 2 (nI (syF has O W).length), ?_, fun c h1 h2 => by rw [rt_up_f h2, k2 c h1], rt_up_eq, by rw [rt_up_n2 (by decide), k2 23 ha23]; exact h3, RX_fr k3 (rt_up_f (by omega))⟩
  have hz : (nI (syF has O W).length ≤ 0) = ((syF has O W).length ≤ 0) := by rw [← nI_0, q_le (by omega) (by omega)]
  by_cases h0 : (syF has O W).length ≤ 0
  · rw [decide_eq_false (by omega)]
    rw [eq_true h0] at hz
    simp (disch := first | exact rt_bo_0 | exact rt_bo_1 | exact ns_float | exact ns_int | exact ns_ref | assumption | omega | (simp (disch := omega) only [ob_23, rg_23_0 hR, rg_23_1 hR, rt_in_nI, Option.isSome_some, Option.getD_some, Bool.or_true, Bool.true_or]; done) | fail) only [e_X2_keep_0, e_X2_keep_1, e_X2_keep_2, e_X2_keep_3, e_X2_keep_5, e_X2_keep_6, e_X2_keep_9, e_X2_keep_12, e_X2_keep_13, e_X2_keep_14, e_X2_keep_17, e_X2_keep_18, e_X2_keep_19, e_X2_keep_22, e_X2_keep_23, e_X2_keep_26, e_X2_keep_27, e_X2_keep_30, e_X2_keep_31, e_X2_keep_32, e_X2_keep_35, e_X2_keep_36, e_X2_keep_39, e_X2_keep_40, e_X2_keep_41, e_X2_keep_44, e_X2_keep_45, e_X2_keep_46, e_X2_keep_47, e_X2_keep_50, e_X2_keep_53, e_X2_keep_56, e_X2_keep_57, e_X2_keep_58, e_X2_keep_61, e_X2_keep_62, e_X2_keep_65, e_X2_keep_68, e_X2_keep_69, e_X2_keep_72, e_X2_keep_73, k1, rt_up_eq, hz, if_true, Option.getD_some, Option.bind_some, Option.toList_some, Option.toList_none, List.cons_append, List.nil_append]
    rfl
  · rw [decide_eq_true (by omega)]
    rw [eq_false h0] at hz
    simp (disch := first | exact rt_bo_0 | exact rt_bo_1 | exact ns_float | exact ns_int | exact ns_ref | assumption | omega | (simp (disch := omega) only [ob_23, rg_23_0 hR, rg_23_1 hR, rt_in_nI, Option.isSome_some, Option.getD_some, Bool.or_true, Bool.true_or]; done) | fail) only [e_X2_keep_0, e_X2_keep_1, e_X2_keep_2, e_X2_keep_3, e_X2_keep_5, e_X2_keep_6, e_X2_keep_9, e_X2_keep_12, e_X2_keep_13, e_X2_keep_14, e_X2_keep_17, e_X2_keep_18, e_X2_keep_19, e_X2_keep_22, e_X2_keep_23, e_X2_keep_26, e_X2_keep_27, e_X2_keep_30, e_X2_keep_31, e_X2_keep_32, e_X2_keep_35, e_X2_keep_36, e_X2_keep_39, e_X2_keep_40, e_X2_keep_41, e_X2_keep_44, e_X2_keep_45, e_X2_keep_46, e_X2_keep_47, e_X2_keep_50, e_X2_keep_53, e_X2_keep_56, e_X2_keep_57, e_X2_keep_58, e_X2_keep_61, e_X2_keep_62, e_X2_keep_65, e_X2_keep_68, e_X2_keep_69, e_X2_keep_72, e_X2_keep_73, k1, rt_up_eq, hz, if_false, Option.getD_some, Option.bind_some, Option.toList_some, Option.toList_none, List.cons_append, List.nil_append]
    rfl
end P63

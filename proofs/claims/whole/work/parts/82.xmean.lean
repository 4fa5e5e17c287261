section P20
variable {e : Nat} {I : Nat → Nat → Int32} {L : Nat → Nat → Int64} {R : Nat → Nat → Option Nat} {a b T j n k p i : Nat} {x : Int32} {q : PhT}
theorem b_ite {c : Bool} {n i : Nat} (hn : n < 32) (hi : i < 32) : bt ((if c = true then (1 : Int32) else 0) <<< (nI n &&& 31)) i = (c && decide (i = n)) := by
  cases c with
  | true => simp only [if_true, Bool.true_and]; exact b_one hn hi
  | false =>
    simp only [Bool.false_eq_true, if_false, Bool.false_and]
    rw [b_shl n hn _ hi, b_0, Bool.and_false]
theorem x_related_l (hR : RG R a b) (hT : I 1 5 = nI T) (h16 : T ≤ 16) (hO : RoomOK T (I 2) (I 5)) {S : Nat → Bool} {r : Nat} (hr : r < 3) {s : Int32} : ∀ (f u : Nat) (fo : Int32) (v1 v2 v3 : Value), u + f = T → (∀ x, x < 32 → bt fo x = exb (fun y => hit T (I 2) (I 5) r S y x) u) → rt_ns v1 = true → rt_ns v2 = true → rt_ns v3 = true →
    ∃ F, Ev mX3_related 19 [.ref 1, .int s, .int (nI (25 + r)), .int (bs S T), .int (bea r), .int fo, .int (nI u), v1, v2, v3] [] (71 + e, I, L, R) = some (some (.int (s &&& F)), (71 + e, I, L, R)) ∧ ∀ x, x < 32 → bt F x = exb (fun y => hit T (I 2) (I 5) r S y x) T := by
  intro f
  induction f with
  | zero =>
    intro u fo v1 v2 v3 hu hb h1 h2 h3
    have hu' : u = T := by omega
    subst hu'
    refine ⟨fo, ?_, hb⟩
    rw [e_X3_related_19]
    simp (disch := first | exact rt_bo_0 | exact rt_bo_1 | exact ns_float | exact ns_int | exact ns_ref | assumption | omega | (simp (disch := omega) only [ob_1, rg_1_0 hR, ar_2, ln_2, rg_1_1 hR, ar_3, ln_3, rg_1_2 hR, ar_4, ln_4, rg_1_3 hR, ar_5, ln_5, rg_1_4 hR, ar_6, ln_6, rt_in_nI, Option.isSome_some, Option.getD_some, Bool.or_true, Bool.true_or]; done) | fail) only [e_X3_related_0, e_X3_related_1, e_X3_related_3, e_X3_related_6, e_X3_related_7, e_X3_related_10, e_X3_related_11, e_X3_related_13, e_X3_related_14, e_X3_related_16, e_X3_related_17, e_X3_related_21, e_X3_related_22, e_X3_related_25, e_X3_related_28, e_X3_related_29, e_X3_related_32, e_X3_related_34, e_X3_related_35, e_X3_related_37, e_X3_related_38, e_X3_related_40, e_X3_related_42, e_X3_related_45, e_X3_related_48, e_X3_related_49, e_X3_related_51, e_X3_related_54, e_X3_related_56, e_X3_related_59, e_X3_related_61, e_X3_related_63, e_X3_related_64, e_X3_related_66, e_X3_related_69, e_X3_related_71, e_X3_related_74, e_X3_related_76, e_X3_related_78, e_X3_related_80, e_X3_related_81, e_X3_related_83, e_X3_related_84, e_X3_related_85, e_X3_related_86, e_X3_related_88, e_X3_related_89, e_X3_related_90, e_X3_related_92, e_X3_related_95, e_X3_related_98, e_X3_related_99, e_X3_related_101, e_X3_related_102, hT, q_le, Nat.le_refl, if_true, Option.getD_some, Option.bind_some, Option.toList_some, Option.toList_none, List.cons_append, List.nil_append]
  | succ f ih =>
    intro u fo v1 v2 v3 hu hb h1 h2 h3
    have c : ¬ T ≤ u := by omega
    have e27 : (27 : Int32) = nI 27 := rfl
    rw [e_X3_related_19]
    rcases low_cases hO h16 (show u < T by omega) with ⟨g1, g2, -⟩ | ⟨g1, g2, g3⟩
    · obtain ⟨F, hF, hF2⟩ := ih (u + 1) fo (.int (I 5 u)) v2 v3 (by omega) (fun x hx => by
        rw [hb x hx]
        show _ = (exb _ u || hit T (I 2) (I 5) r S u x)
        have : hit T (I 2) (I 5) r S u x = false := by unfold hit; simp [g2]
        rw [this, Bool.or_false]) rfl h2 h3
      refine ⟨F, ?_, hF2⟩
      simp (disch := first | exact rt_bo_0 | exact rt_bo_1 | exact ns_float | exact ns_int | exact ns_ref | assumption | omega | (simp (disch := omega) only [ob_1, rg_1_0 hR, ar_2, ln_2, rg_1_1 hR, ar_3, ln_3, rg_1_2 hR, ar_4, ln_4, rg_1_3 hR, ar_5, ln_5, rg_1_4 hR, ar_6, ln_6, rt_in_nI, Option.isSome_some, Option.getD_some, Bool.or_true, Bool.true_or]; done) | fail) only [e_X3_related_0, e_X3_related_1, e_X3_related_3, e_X3_related_6, e_X3_related_7, e_X3_related_10, e_X3_related_11, e_X3_related_13, e_X3_related_14, e_X3_related_16, e_X3_related_17, e_X3_related_21, e_X3_related_22, e_X3_related_25, e_X3_related_28, e_X3_related_29, e_X3_related_32, e_X3_related_34, e_X3_related_35, e_X3_related_37, e_X3_related_38, e_X3_related_40, e_X3_related_42, e_X3_related_45, e_X3_related_48, e_X3_related_49, e_X3_related_51, e_X3_related_54, e_X3_related_56, e_X3_related_59, e_X3_related_61, e_X3_related_63, e_X3_related_64, e_X3_related_66, e_X3_related_69, e_X3_related_71, e_X3_related_74, e_X3_related_76, e_X3_related_78, e_X3_related_80, e_X3_related_81, e_X3_related_83, e_X3_related_84, e_X3_related_85, e_X3_related_86, e_X3_related_88, e_X3_related_89, e_X3_related_90, e_X3_related_92, e_X3_related_95, e_X3_related_98, e_X3_related_99, e_X3_related_101, e_X3_related_102, hT, q_le, q_s, c, nI_cl, rg_1_3 hR, x_isSort_out hR hT h16 g1, q_00, if_true, if_false, Option.getD_some, Option.bind_some, Option.toList_some, Option.toList_none, List.cons_append, List.nil_append]
      exact hF
    · by_cases hs : I 2 (low (I 5) u) = bea r
      · have hask : ∀ z, z < T → (bs S T >>> (nI z &&& 31)) &&& 1 = if S z = true then 1 else 0 := by
          intro z hz
          rw [bs_ask (by omega) (by omega)]
          simp [hz]
        by_cases h27 : r = 2
        · subst h27
          have hl := low (I 5) u
          obtain ⟨F, hF, hF2⟩ := ih (u + 1) (fo ||| (((bs S T >>> (nI u &&& 31)) &&& 1) <<< (nI (low (I 5) u) &&& 31))) (.int (I 5 u)) (.int (nI u)) (.int (nI (low (I 5) u))) (by omega) (fun x hx => by
            rw [b_or, hask u (by omega), b_ite (by omega) hx, hb x hx]
            show _ = (exb _ u || hit T (I 2) (I 5) 2 S u x)
            congr 1
            unfold hit
            simp [g1, hs, Bool.and_comm]) rfl rfl rfl
          refine ⟨F, ?_, hF2⟩
          have d1 : nI (25 + 2) = 27 := rfl
          rw [g2] at hF
          rw [d1] at hF
          simp (disch := first | exact rt_bo_0 | exact rt_bo_1 | exact ns_float | exact ns_int | exact ns_ref | assumption | omega | (simp (disch := omega) only [ob_1, rg_1_0 hR, ar_2, ln_2, rg_1_1 hR, ar_3, ln_3, rg_1_2 hR, ar_4, ln_4, rg_1_3 hR, ar_5, ln_5, rg_1_4 hR, ar_6, ln_6, rt_in_nI, Option.isSome_some, Option.getD_some, Bool.or_true, Bool.true_or]; done) | fail) only [e_X3_related_0, e_X3_related_1, e_X3_related_3, e_X3_related_6, e_X3_related_7, e_X3_related_10, e_X3_related_11, e_X3_related_13, e_X3_related_14, e_X3_related_16, e_X3_related_17, e_X3_related_21, e_X3_related_22, e_X3_related_25, e_X3_related_28, e_X3_related_29, e_X3_related_32, e_X3_related_34, e_X3_related_35, e_X3_related_37, e_X3_related_38, e_X3_related_40, e_X3_related_42, e_X3_related_45, e_X3_related_48, e_X3_related_49, e_X3_related_51, e_X3_related_54, e_X3_related_56, e_X3_related_59, e_X3_related_61, e_X3_related_63, e_X3_related_64, e_X3_related_66, e_X3_related_69, e_X3_related_71, e_X3_related_74, e_X3_related_76, e_X3_related_78, e_X3_related_80, e_X3_related_81, e_X3_related_83, e_X3_related_84, e_X3_related_85, e_X3_related_86, e_X3_related_88, e_X3_related_89, e_X3_related_90, e_X3_related_92, e_X3_related_95, e_X3_related_98, e_X3_related_99, e_X3_related_101, e_X3_related_102, hT, q_le, q_s, c, nI_cl, rg_1_3 hR, g2, x_isSort_in hR hT h16 g1, hs, d1, q_10, if_true, if_false, Option.getD_some, Option.bind_some, Option.toList_some, Option.toList_none, List.cons_append, List.nil_append]
          exact hF
        · have d2 : (nI (25 + r) = 27) = False := by rw [e27, q_eq (by omega) (by omega)]; exact eq_false (by omega)
          obtain ⟨F, hF, hF2⟩ := ih (u + 1) (fo ||| (((bs S T >>> (nI (low (I 5) u) &&& 31)) &&& 1) <<< (nI u &&& 31))) (.int (I 5 u)) (.int (nI (low (I 5) u))) (.int (nI u)) (by omega) (fun x hx => by
            rw [b_or, hask _ g1, b_ite (by omega) hx, hb x hx]
            show _ = (exb _ u || hit T (I 2) (I 5) r S u x)
            congr 1
            unfold hit
            simp [g1, hs, h27, Bool.and_comm]) rfl rfl rfl
          refine ⟨F, ?_, hF2⟩
          rw [g2] at hF
          simp (disch := first | exact rt_bo_0 | exact rt_bo_1 | exact ns_float | exact ns_int | exact ns_ref | assumption | omega | (simp (disch := omega) only [ob_1, rg_1_0 hR, ar_2, ln_2, rg_1_1 hR, ar_3, ln_3, rg_1_2 hR, ar_4, ln_4, rg_1_3 hR, ar_5, ln_5, rg_1_4 hR, ar_6, ln_6, rt_in_nI, Option.isSome_some, Option.getD_some, Bool.or_true, Bool.true_or]; done) | fail) only [e_X3_related_0, e_X3_related_1, e_X3_related_3, e_X3_related_6, e_X3_related_7, e_X3_related_10, e_X3_related_11, e_X3_related_13, e_X3_related_14, e_X3_related_16, e_X3_related_17, e_X3_related_21, e_X3_related_22, e_X3_related_25, e_X3_related_28, e_X3_related_29, e_X3_related_32, e_X3_related_34, e_X3_related_35, e_X3_related_37, e_X3_related_38, e_X3_related_40, e_X3_related_42, e_X3_related_45, e_X3_related_48, e_X3_related_49, e_X3_related_51, e_X3_related_54, e_X3_related_56, e_X3_related_59, e_X3_related_61, e_X3_related_63, e_X3_related_64, e_X3_related_66, e_X3_related_69, e_X3_related_71, e_X3_related_74, e_X3_related_76, e_X3_related_78, e_X3_related_80, e_X3_related_81, e_X3_related_83, e_X3_related_84, e_X3_related_85, e_X3_related_86, e_X3_related_88, e_X3_related_89, e_X3_related_90, e_X3_related_92, e_X3_related_95, e_X3_related_98, e_X3_related_99, e_X3_related_101, e_X3_related_102, hT, q_le, q_s, c, nI_cl, rg_1_3 hR, g2, x_isSort_in hR hT h16 g1, hs, d2, q_10, if_true, if_false, Option.getD_some, Option.bind_some, Option.toList_some, Option.toList_none, List.cons_append, List.nil_append]
          exact hF
      · obtain ⟨F, hF, hF2⟩ := ih (u + 1) fo (.int (I 5 u)) v2 v3 (by omega) (fun x hx => by
          rw [hb x hx]
          show _ = (exb _ u || hit T (I 2) (I 5) r S u x)
          have : hit T (I 2) (I 5) r S u x = false := by unfold hit; simp [hs]
          rw [this, Bool.or_false]) rfl h2 h3
        refine ⟨F, ?_, hF2⟩
        rw [g2] at hF
        simp (disch := first | exact rt_bo_0 | exact rt_bo_1 | exact ns_float | exact ns_int | exact ns_ref | assumption | omega | (simp (disch := omega) only [ob_1, rg_1_0 hR, ar_2, ln_2, rg_1_1 hR, ar_3, ln_3, rg_1_2 hR, ar_4, ln_4, rg_1_3 hR, ar_5, ln_5, rg_1_4 hR, ar_6, ln_6, rt_in_nI, Option.isSome_some, Option.getD_some, Bool.or_true, Bool.true_or]; done) | fail) only [e_X3_related_0, e_X3_related_1, e_X3_related_3, e_X3_related_6, e_X3_related_7, e_X3_related_10, e_X3_related_11, e_X3_related_13, e_X3_related_14, e_X3_related_16, e_X3_related_17, e_X3_related_21, e_X3_related_22, e_X3_related_25, e_X3_related_28, e_X3_related_29, e_X3_related_32, e_X3_related_34, e_X3_related_35, e_X3_related_37, e_X3_related_38, e_X3_related_40, e_X3_related_42, e_X3_related_45, e_X3_related_48, e_X3_related_49, e_X3_related_51, e_X3_related_54, e_X3_related_56, e_X3_related_59, e_X3_related_61, e_X3_related_63, e_X3_related_64, e_X3_related_66, e_X3_related_69, e_X3_related_71, e_X3_related_74, e_X3_related_76, e_X3_related_78, e_X3_related_80, e_X3_related_81, e_X3_related_83, e_X3_related_84, e_X3_related_85, e_X3_related_86, e_X3_related_88, e_X3_related_89, e_X3_related_90, e_X3_related_92, e_X3_related_95, e_X3_related_98, e_X3_related_99, e_X3_related_101, e_X3_related_102, hT, q_le, q_s, c, nI_cl, rg_1_3 hR, g2, x_isSort_in hR hT h16 g1, hs, q_00, if_true, if_false, Option.getD_some, Option.bind_some, Option.toList_some, Option.toList_none, List.cons_append, List.nil_append]
        exact hF
theorem x_related (hR : RG R a b) (hT : I 1 5 = nI T) (h16 : T ≤ 16) (hO : RoomOK T (I 2) (I 5)) {S V : Nat → Bool} {r : Nat} (hr : r < 3) : Ev mX3_related 0 [.ref 1, .int (bs V T), .int (nI (25 + r)), .int (bs S T), .float 0, .float 0, .float 0, .float 0, .float 0, .float 0] [] (71 + e, I, L, R) = some (some (.int (bs (fun x => V x && lkd T (I 2) (I 5) r S x) T)), (71 + e, I, L, R)) := by
  obtain ⟨F, hF, hF2⟩ := x_related_l (e := e) (L := L) (s := bs V T) hR hT h16 hO (S := S) hr T 0 0 (.float 0) (.float 0) (.float 0) (by omega) (fun x _ => by rw [b_0]; rfl) rfl rfl rfl
  have e26 : (26 : Int32) = nI 26 := rfl
  have hq : bs V T &&& F = bs (fun x => V x && lkd T (I 2) (I 5) r S x) T := by
    apply bs_of (by omega)
    intro x hx
    rw [b_and, b_bs V T (by omega) x hx, hF2 x hx]
    by_cases h : x < T
    · rw [lkd_hit h]; simp [h]
    · simp [h]
  rw [nI_0] at hF
  rw [hq] at hF
  by_cases h1 : r = 1
  · subst h1
    have d1 : nI (25 + 1) = 26 := rfl
    have d2 : bea 1 = 2 := rfl
    rw [d1, d2] at hF
    simp (disch := first | exact rt_bo_0 | exact rt_bo_1 | exact ns_float | exact ns_int | exact ns_ref | assumption | omega | (simp (disch := omega) only [ob_1, rg_1_0 hR, ar_2, ln_2, rg_1_1 hR, ar_3, ln_3, rg_1_2 hR, ar_4, ln_4, rg_1_3 hR, ar_5, ln_5, rg_1_4 hR, ar_6, ln_6, rt_in_nI, Option.isSome_some, Option.getD_some, Bool.or_true, Bool.true_or]; done) | fail) only [e_X3_related_0, e_X3_related_1, e_X3_related_3, e_X3_related_6, e_X3_related_7, e_X3_related_10, e_X3_related_11, e_X3_related_13, e_X3_related_14, e_X3_related_16, e_X3_related_17, e_X3_related_21, e_X3_related_22, e_X3_related_25, e_X3_related_28, e_X3_related_29, e_X3_related_32, e_X3_related_34, e_X3_related_35, e_X3_related_37, e_X3_related_38, e_X3_related_40, e_X3_related_42, e_X3_related_45, e_X3_related_48, e_X3_related_49, e_X3_related_51, e_X3_related_54, e_X3_related_56, e_X3_related_59, e_X3_related_61, e_X3_related_63, e_X3_related_64, e_X3_related_66, e_X3_related_69, e_X3_related_71, e_X3_related_74, e_X3_related_76, e_X3_related_78, e_X3_related_80, e_X3_related_81, e_X3_related_83, e_X3_related_84, e_X3_related_85, e_X3_related_86, e_X3_related_88, e_X3_related_89, e_X3_related_90, e_X3_related_92, e_X3_related_95, e_X3_related_98, e_X3_related_99, e_X3_related_101, e_X3_related_102, d1, if_true, hF]
  · have d2 : (nI (25 + r) = 26) = False := by rw [e26, q_eq (by omega) (by omega)]; exact eq_false (by omega)
    have d3 : bea r = 0 := if_neg h1
    rw [d3] at hF
    simp (disch := first | exact rt_bo_0 | exact rt_bo_1 | exact ns_float | exact ns_int | exact ns_ref | assumption | omega | (simp (disch := omega) only [ob_1, rg_1_0 hR, ar_2, ln_2, rg_1_1 hR, ar_3, ln_3, rg_1_2 hR, ar_4, ln_4, rg_1_3 hR, ar_5, ln_5, rg_1_4 hR, ar_6, ln_6, rt_in_nI, Option.isSome_some, Option.getD_some, Bool.or_true, Bool.true_or]; done) | fail) only [e_X3_related_0, e_X3_related_1, e_X3_related_3, e_X3_related_6, e_X3_related_7, e_X3_related_10, e_X3_related_11, e_X3_related_13, e_X3_related_14, e_X3_related_16, e_X3_related_17, e_X3_related_21, e_X3_related_22, e_X3_related_25, e_X3_related_28, e_X3_related_29, e_X3_related_32, e_X3_related_34, e_X3_related_35, e_X3_related_37, e_X3_related_38, e_X3_related_40, e_X3_related_42, e_X3_related_45, e_X3_related_48, e_X3_related_49, e_X3_related_51, e_X3_related_54, e_X3_related_56, e_X3_related_59, e_X3_related_61, e_X3_related_63, e_X3_related_64, e_X3_related_66, e_X3_related_69, e_X3_related_71, e_X3_related_74, e_X3_related_76, e_X3_related_78, e_X3_related_80, e_X3_related_81, e_X3_related_83, e_X3_related_84, e_X3_related_85, e_X3_related_86, e_X3_related_88, e_X3_related_89, e_X3_related_90, e_X3_related_92, e_X3_related_95, e_X3_related_98, e_X3_related_99, e_X3_related_101, e_X3_related_102, d2, if_false, hF]
theorem b_not (x : Int32) {i : Nat} (hi : i < 32) : bt (x ^^^ (-1)) i = !bt x i := by rw [b_xor, b_m1 i hi, Bool.xor_true]
theorem x_those_i (hR : RG R a b) (hT : I 1 5 = nI T) (h16 : T ≤ 16) (hj : j < 6) {W : Nat → Bool} {s u : Value} : ∀ (f y : Nat), y + f = T → Ev mX5_thoseLooking 26 [.ref 27, .ref p, s, u, .int (bs (fun z => W z && (decide (y ≤ z) || ajf (I 3) (I 4) j z)) T), .int (nI (5 + j)), .int (nI y)] [] (71 + e, I, L, R) = Ev mX5_thoseLooking 69 [.ref 27, .ref p, s, u, .int (bs (fun z => W z && ajf (I 3) (I 4) j z) T), .int (nI (5 + j)), .int (nI T)] [] (71 + e, I, L, R) := by
  intro f
  induction f with
  | zero =>
    intro y hy
    have hy' : y = T := by omega
    subst hy'
    rw [e_X5_thoseLooking_26]
    simp (disch := first | exact rt_bo_0 | exact rt_bo_1 | exact ns_float | exact ns_int | exact ns_ref | assumption | omega | (simp (disch := omega) only [ob_1, rg_1_0 hR, ar_2, ln_2, rg_1_1 hR, ar_3, ln_3, rg_1_2 hR, ar_4, ln_4, rg_1_3 hR, ar_5, ln_5, rg_1_4 hR, ar_6, ln_6, ob_27, rg_27_0 hR, rg_27_1 hR, rg_27_2 hR, rg_27_3 hR, ar_28, ln_28, rg_27_4 hR, ar_29, ln_29, rg_27_5 hR, ar_30, ln_30, rt_in_nI, Option.isSome_some, Option.getD_some, Bool.or_true, Bool.true_or]; done) | fail) only [e_X5_thoseLooking_0, e_X5_thoseLooking_1, e_X5_thoseLooking_3, e_X5_thoseLooking_4, e_X5_thoseLooking_6, e_X5_thoseLooking_8, e_X5_thoseLooking_10, e_X5_thoseLooking_13, e_X5_thoseLooking_14, e_X5_thoseLooking_15, e_X5_thoseLooking_17, e_X5_thoseLooking_20, e_X5_thoseLooking_23, e_X5_thoseLooking_24, e_X5_thoseLooking_28, e_X5_thoseLooking_29, e_X5_thoseLooking_32, e_X5_thoseLooking_35, e_X5_thoseLooking_38, e_X5_thoseLooking_39, e_X5_thoseLooking_42, e_X5_thoseLooking_44, e_X5_thoseLooking_46, e_X5_thoseLooking_49, e_X5_thoseLooking_52, e_X5_thoseLooking_54, e_X5_thoseLooking_55, e_X5_thoseLooking_57, e_X5_thoseLooking_58, e_X5_thoseLooking_59, e_X5_thoseLooking_60, e_X5_thoseLooking_61, e_X5_thoseLooking_63, e_X5_thoseLooking_66, e_X5_thoseLooking_72, e_X5_thoseLooking_75, e_X5_thoseLooking_77, e_X3_things_0, e_X3_things_1, e_X3_things_4, rg_27_0 hR, hT, q_le, Nat.le_refl, if_true, Option.getD_some, Option.bind_some, Option.toList_some, Option.toList_none, List.cons_append, List.nil_append]
    rw [bs_congr (q := fun z => W z && ajf (I 3) (I 4) j z) (by omega) (fun z hz => by simp [show ¬ y ≤ z by omega])]
  | succ f ih =>
    intro y hy
    have c : ¬ T ≤ y := by omega
    have hh := ih (y + 1) (by omega)
    rw [e_X5_thoseLooking_26]
    simp (disch := first | exact rt_bo_0 | exact rt_bo_1 | exact ns_float | exact ns_int | exact ns_ref | assumption | omega | (simp (disch := omega) only [ob_1, rg_1_0 hR, ar_2, ln_2, rg_1_1 hR, ar_3, ln_3, rg_1_2 hR, ar_4, ln_4, rg_1_3 hR, ar_5, ln_5, rg_1_4 hR, ar_6, ln_6, ob_27, rg_27_0 hR, rg_27_1 hR, rg_27_2 hR, rg_27_3 hR, ar_28, ln_28, rg_27_4 hR, ar_29, ln_29, rg_27_5 hR, ar_30, ln_30, rt_in_nI, Option.isSome_some, Option.getD_some, Bool.or_true, Bool.true_or]; done) | fail) only [e_X5_thoseLooking_0, e_X5_thoseLooking_1, e_X5_thoseLooking_3, e_X5_thoseLooking_4, e_X5_thoseLooking_6, e_X5_thoseLooking_8, e_X5_thoseLooking_10, e_X5_thoseLooking_13, e_X5_thoseLooking_14, e_X5_thoseLooking_15, e_X5_thoseLooking_17, e_X5_thoseLooking_20, e_X5_thoseLooking_23, e_X5_thoseLooking_24, e_X5_thoseLooking_28, e_X5_thoseLooking_29, e_X5_thoseLooking_32, e_X5_thoseLooking_35, e_X5_thoseLooking_38, e_X5_thoseLooking_39, e_X5_thoseLooking_42, e_X5_thoseLooking_44, e_X5_thoseLooking_46, e_X5_thoseLooking_49, e_X5_thoseLooking_52, e_X5_thoseLooking_54, e_X5_thoseLooking_55, e_X5_thoseLooking_57, e_X5_thoseLooking_58, e_X5_thoseLooking_59, e_X5_thoseLooking_60, e_X5_thoseLooking_61, e_X5_thoseLooking_63, e_X5_thoseLooking_66, e_X5_thoseLooking_72, e_X5_thoseLooking_75, e_X5_thoseLooking_77, e_X3_things_0, e_X3_things_1, e_X3_things_4, rg_27_0 hR, hT, q_le, q_s, c, x_looks hR hT h16 (show y < T by omega) hj, b01_0, if_false, Option.getD_some, Option.bind_some, Option.toList_some, Option.toList_none, List.cons_append, List.nil_append]
    cases hl : ajf (I 3) (I 4) j y with
    | true =>
      simp only [Bool.true_eq_false, if_false]
      rw [← hh]
      rw [bs_congr (by omega) (fun z hz => ?_)]
      by_cases hz2 : z = y
      · subst hz2; simp [hl]
      · have : decide (y ≤ z) = decide (y + 1 ≤ z) := by congr 1; exact propext ⟨fun _ => by omega, fun _ => by omega⟩
        rw [this]
    | false =>
      simp only [if_true]
      rw [← hh]
      have hb : bs (fun z => W z && (decide (y ≤ z) || ajf (I 3) (I 4) j z)) T &&& (((1 : Int32) <<< (nI y &&& 31)) ^^^ (-1)) = bs (fun z => W z && (decide (y + 1 ≤ z) || ajf (I 3) (I 4) j z)) T := by
        apply bs_of (by omega)
        intro z hz
        rw [b_and, b_not _ hz, b_one (by omega) hz, b_bs _ T (by omega) z hz]
        by_cases hz2 : z = y
        · subst hz2; simp [hl]
        · have : decide (y ≤ z) = decide (y + 1 ≤ z) := by congr 1; exact propext ⟨fun _ => by omega, fun _ => by omega⟩
          rw [this]
          simp [hz2]
      rw [hb]
theorem x_those_l (hR : RG R a b) (hT : I 1 5 = nI T) (h16 : T ≤ 16) (hp : PH (71 + e) R p) (hq : PX I p q) (h7 : pP q ≤ 7) (hk : k < pP q) {V : Nat → Bool} {u : Value} : ∀ (f j : Nat) (v : Value), j + f = 6 → rt_ns v = true → Ev mX5_thoseLooking 6 [.ref 27, .ref p, .int (nI k), u, .int (bs (fun z => V z && sch (I 3) (I 4) (pL q k) j z) T), .int (nI (5 + j)), v] [] (71 + e, I, L, R) = some (some (.int (bs (fun z => V z && sch (I 3) (I 4) (pL q k) 6 z) T)), (71 + e, I, L, R)) := by
  intro f
  have e10 : (10 : Int32) = nI 10 := rfl
  have o1 := hp.1
  induction f with
  | zero =>
    intro j v hj hv
    have hj' : j = 6 := by omega
    subst hj'
    have c : 10 < 5 + 6 := by omega
    rw [e_X5_thoseLooking_6]
    simp (disch := first | exact rt_bo_0 | exact rt_bo_1 | exact ns_float | exact ns_int | exact ns_ref | assumption | omega | (simp (disch := omega) only [ob_1, rg_1_0 hR, ar_2, ln_2, rg_1_1 hR, ar_3, ln_3, rg_1_2 hR, ar_4, ln_4, rg_1_3 hR, ar_5, ln_5, rg_1_4 hR, ar_6, ln_6, ob_27, rg_27_0 hR, rg_27_1 hR, rg_27_2 hR, rg_27_3 hR, ar_28, ln_28, rg_27_4 hR, ar_29, ln_29, rg_27_5 hR, ar_30, ln_30, o1, rt_in_nI, Option.isSome_some, Option.getD_some, Bool.or_true, Bool.true_or]; done) | fail) only [e_X5_thoseLooking_0, e_X5_thoseLooking_1, e_X5_thoseLooking_3, e_X5_thoseLooking_4, e_X5_thoseLooking_8, e_X5_thoseLooking_10, e_X5_thoseLooking_13, e_X5_thoseLooking_14, e_X5_thoseLooking_15, e_X5_thoseLooking_17, e_X5_thoseLooking_20, e_X5_thoseLooking_23, e_X5_thoseLooking_24, e_X5_thoseLooking_28, e_X5_thoseLooking_29, e_X5_thoseLooking_32, e_X5_thoseLooking_35, e_X5_thoseLooking_38, e_X5_thoseLooking_39, e_X5_thoseLooking_42, e_X5_thoseLooking_44, e_X5_thoseLooking_46, e_X5_thoseLooking_49, e_X5_thoseLooking_52, e_X5_thoseLooking_54, e_X5_thoseLooking_55, e_X5_thoseLooking_57, e_X5_thoseLooking_58, e_X5_thoseLooking_59, e_X5_thoseLooking_60, e_X5_thoseLooking_61, e_X5_thoseLooking_63, e_X5_thoseLooking_66, e_X5_thoseLooking_72, e_X5_thoseLooking_75, e_X5_thoseLooking_77, e10, q_lt, c, if_true, Option.getD_some, Option.bind_some, Option.toList_some, Option.toList_none, List.cons_append, List.nil_append]
  | succ f ih =>
    intro j v hj hv
    have c : ¬ 10 < 5 + j := by omega
    have s1 : nI (5 + j) + 1 = nI (5 + (j + 1)) := q_s (5 + j)
    rw [e_X5_thoseLooking_6]
    have h69 : ∀ (w : Value) (z : Int32), rt_ns w = true → Ev mX5_thoseLooking 69 [.ref 27, .ref p, .int (nI k), u, .int z, .int (nI (5 + j)), w] [] (71 + e, I, L, R) = Ev mX5_thoseLooking 6 [.ref 27, .ref p, .int (nI k), u, .int z, .int (nI (5 + (j + 1))), w] [] (71 + e, I, L, R) := by
      intro w z _
      simp (disch := first | exact rt_bo_0 | exact rt_bo_1 | exact ns_float | exact ns_int | exact ns_ref | assumption | omega | (simp (disch := omega) only [ob_1, rg_1_0 hR, ar_2, ln_2, rg_1_1 hR, ar_3, ln_3, rg_1_2 hR, ar_4, ln_4, rg_1_3 hR, ar_5, ln_5, rg_1_4 hR, ar_6, ln_6, ob_27, rg_27_0 hR, rg_27_1 hR, rg_27_2 hR, rg_27_3 hR, ar_28, ln_28, rg_27_4 hR, ar_29, ln_29, rg_27_5 hR, ar_30, ln_30, rt_in_nI, Option.isSome_some, Option.getD_some, Bool.or_true, Bool.true_or]; done) | fail) only [e_X5_thoseLooking_0, e_X5_thoseLooking_1, e_X5_thoseLooking_3, e_X5_thoseLooking_4, e_X5_thoseLooking_8, e_X5_thoseLooking_10, e_X5_thoseLooking_13, e_X5_thoseLooking_14, e_X5_thoseLooking_15, e_X5_thoseLooking_17, e_X5_thoseLooking_20, e_X5_thoseLooking_23, e_X5_thoseLooking_24, e_X5_thoseLooking_28, e_X5_thoseLooking_29, e_X5_thoseLooking_32, e_X5_thoseLooking_35, e_X5_thoseLooking_38, e_X5_thoseLooking_39, e_X5_thoseLooking_42, e_X5_thoseLooking_44, e_X5_thoseLooking_46, e_X5_thoseLooking_49, e_X5_thoseLooking_52, e_X5_thoseLooking_54, e_X5_thoseLooking_55, e_X5_thoseLooking_57, e_X5_thoseLooking_58, e_X5_thoseLooking_59, e_X5_thoseLooking_60, e_X5_thoseLooking_61, e_X5_thoseLooking_63, e_X5_thoseLooking_66, e_X5_thoseLooking_69, e_X5_thoseLooking_72, e_X5_thoseLooking_75, e_X5_thoseLooking_77, s1]
    cases hl : pL q k j with
    | true =>
      have h26 := x_those_i (e := e) (L := L) (p := p) (s := .int (nI k)) (u := u) hR hT h16 (show j < 6 by omega) (W := fun z => V z && sch (I 3) (I 4) (pL q k) j z) T 0 (by omega)
      rw [nI_0] at h26
      have e1 : bs (fun z => (V z && sch (I 3) (I 4) (pL q k) j z) && (decide (0 ≤ z) || ajf (I 3) (I 4) j z)) T = bs (fun z => V z && sch (I 3) (I 4) (pL q k) j z) T := bs_congr (by omega) (fun z _ => by simp)
      rw [e1] at h26
      simp (disch := first | exact rt_bo_0 | exact rt_bo_1 | exact ns_float | exact ns_int | exact ns_ref | assumption | omega | (simp (disch := omega) only [ob_1, rg_1_0 hR, ar_2, ln_2, rg_1_1 hR, ar_3, ln_3, rg_1_2 hR, ar_4, ln_4, rg_1_3 hR, ar_5, ln_5, rg_1_4 hR, ar_6, ln_6, ob_27, rg_27_0 hR, rg_27_1 hR, rg_27_2 hR, rg_27_3 hR, ar_28, ln_28, rg_27_4 hR, ar_29, ln_29, rg_27_5 hR, ar_30, ln_30, o1, rt_in_nI, Option.isSome_some, Option.getD_some, Bool.or_true, Bool.true_or]; done) | fail) only [e_X5_thoseLooking_0, e_X5_thoseLooking_1, e_X5_thoseLooking_3, e_X5_thoseLooking_4, e_X5_thoseLooking_8, e_X5_thoseLooking_10, e_X5_thoseLooking_13, e_X5_thoseLooking_14, e_X5_thoseLooking_15, e_X5_thoseLooking_17, e_X5_thoseLooking_20, e_X5_thoseLooking_23, e_X5_thoseLooking_24, e_X5_thoseLooking_28, e_X5_thoseLooking_29, e_X5_thoseLooking_32, e_X5_thoseLooking_35, e_X5_thoseLooking_38, e_X5_thoseLooking_39, e_X5_thoseLooking_42, e_X5_thoseLooking_44, e_X5_thoseLooking_46, e_X5_thoseLooking_49, e_X5_thoseLooking_52, e_X5_thoseLooking_54, e_X5_thoseLooking_55, e_X5_thoseLooking_57, e_X5_thoseLooking_58, e_X5_thoseLooking_59, e_X5_thoseLooking_60, e_X5_thoseLooking_61, e_X5_thoseLooking_63, e_X5_thoseLooking_66, e_X5_thoseLooking_72, e_X5_thoseLooking_75, e_X5_thoseLooking_77, e10, q_lt, c, x_hasLook hp hq h7 hk (show j < 6 by omega), hl, b01, q_10, if_true, if_false, h26, Option.getD_some, Option.bind_some, Option.toList_some, Option.toList_none, List.cons_append, List.nil_append]
      rw [h69 _ _ rfl]
      have e2 : bs (fun z => (V z && sch (I 3) (I 4) (pL q k) j z) && ajf (I 3) (I 4) j z) T = bs (fun z => V z && sch (I 3) (I 4) (pL q k) (j + 1) z) T := bs_congr (by omega) (fun z _ => by
        show _ = (V z && (sch (I 3) (I 4) (pL q k) j z && (!pL q k j || ajf (I 3) (I 4) j z)))
        simp [hl, Bool.and_assoc])
      rw [e2]
      exact ih (j + 1) _ (by omega) rfl
    | false =>
      simp (disch := first | exact rt_bo_0 | exact rt_bo_1 | exact ns_float | exact ns_int | exact ns_ref | assumption | omega | (simp (disch := omega) only [ob_1, rg_1_0 hR, ar_2, ln_2, rg_1_1 hR, ar_3, ln_3, rg_1_2 hR, ar_4, ln_4, rg_1_3 hR, ar_5, ln_5, rg_1_4 hR, ar_6, ln_6, ob_27, rg_27_0 hR, rg_27_1 hR, rg_27_2 hR, rg_27_3 hR, ar_28, ln_28, rg_27_4 hR, ar_29, ln_29, rg_27_5 hR, ar_30, ln_30, o1, rt_in_nI, Option.isSome_some, Option.getD_some, Bool.or_true, Bool.true_or]; done) | fail) only [e_X5_thoseLooking_0, e_X5_thoseLooking_1, e_X5_thoseLooking_3, e_X5_thoseLooking_4, e_X5_thoseLooking_8, e_X5_thoseLooking_10, e_X5_thoseLooking_13, e_X5_thoseLooking_14, e_X5_thoseLooking_15, e_X5_thoseLooking_17, e_X5_thoseLooking_20, e_X5_thoseLooking_23, e_X5_thoseLooking_24, e_X5_thoseLooking_28, e_X5_thoseLooking_29, e_X5_thoseLooking_32, e_X5_thoseLooking_35, e_X5_thoseLooking_38, e_X5_thoseLooking_39, e_X5_thoseLooking_42, e_X5_thoseLooking_44, e_X5_thoseLooking_46, e_X5_thoseLooking_49, e_X5_thoseLooking_52, e_X5_thoseLooking_54, e_X5_thoseLooking_55, e_X5_thoseLooking_57, e_X5_thoseLooking_58, e_X5_thoseLooking_59, e_X5_thoseLooking_60, e_X5_thoseLooking_61, e_X5_thoseLooking_63, e_X5_thoseLooking_66, e_X5_thoseLooking_72, e_X5_thoseLooking_75, e_X5_thoseLooking_77, e10, q_lt, c, x_hasLook hp hq h7 hk (show j < 6 by omega), hl, b01, q_00, Bool.false_eq_true, if_true, if_false, Option.getD_some, Option.bind_some, Option.toList_some, Option.toList_none, List.cons_append, List.nil_append]
      rw [h69 _ _ hv]
      have e2 : bs (fun z => V z && sch (I 3) (I 4) (pL q k) j z) T = bs (fun z => V z && sch (I 3) (I 4) (pL q k) (j + 1) z) T := bs_congr (by omega) (fun z _ => by
        show _ = (V z && (sch (I 3) (I 4) (pL q k) j z && (!pL q k j || ajf (I 3) (I 4) j z)))
        simp [hl])
      rw [e2]
      exact ih (j + 1) _ (by omega) hv
theorem x_those (hR : RG R a b) (hT : I 1 5 = nI T) (h16 : T ≤ 16) (hp : PH (71 + e) R p) (hq : PX I p q) (h7 : pP q ≤ 7) (hk : k < pP q) {V : Nat → Bool} : Ev mX5_thoseLooking 0 [.ref 27, .ref p, .int (nI k), .int (bs V T), .float 0, .float 0, .float 0] [] (71 + e, I, L, R) = some (some (.int (bs (fun z => V z && sch (I 3) (I 4) (pL q k) 6 z) T)), (71 + e, I, L, R)) := by
  have hh := x_those_l (e := e) (L := L) (u := .int (bs V T)) hR hT h16 hp hq h7 hk (V := V) 6 0 (.float 0) (by omega) rfl
  have e1 : bs (fun z => V z && sch (I 3) (I 4) (pL q k) 0 z) T = bs V T := bs_congr (by omega) (fun z _ => by
    show (V z && true) = V z
    simp)
  rw [e1] at hh
  have e5 : nI (5 + 0) = 5 := rfl
  rw [e5] at hh
  simp (disch := first | exact rt_bo_0 | exact rt_bo_1 | exact ns_float | exact ns_int | exact ns_ref | assumption | omega | (simp (disch := omega) only [ob_1, rg_1_0 hR, ar_2, ln_2, rg_1_1 hR, ar_3, ln_3, rg_1_2 hR, ar_4, ln_4, rg_1_3 hR, ar_5, ln_5, rg_1_4 hR, ar_6, ln_6, ob_27, rg_27_0 hR, rg_27_1 hR, rg_27_2 hR, rg_27_3 hR, ar_28, ln_28, rg_27_4 hR, ar_29, ln_29, rg_27_5 hR, ar_30, ln_30, rt_in_nI, Option.isSome_some, Option.getD_some, Bool.or_true, Bool.true_or]; done) | fail) only [e_X5_thoseLooking_0, e_X5_thoseLooking_1, e_X5_thoseLooking_3, e_X5_thoseLooking_4, e_X5_thoseLooking_8, e_X5_thoseLooking_10, e_X5_thoseLooking_13, e_X5_thoseLooking_14, e_X5_thoseLooking_15, e_X5_thoseLooking_17, e_X5_thoseLooking_20, e_X5_thoseLooking_23, e_X5_thoseLooking_24, e_X5_thoseLooking_28, e_X5_thoseLooking_29, e_X5_thoseLooking_32, e_X5_thoseLooking_35, e_X5_thoseLooking_38, e_X5_thoseLooking_39, e_X5_thoseLooking_42, e_X5_thoseLooking_44, e_X5_thoseLooking_46, e_X5_thoseLooking_49, e_X5_thoseLooking_52, e_X5_thoseLooking_54, e_X5_thoseLooking_55, e_X5_thoseLooking_57, e_X5_thoseLooking_58, e_X5_thoseLooking_59, e_X5_thoseLooking_60, e_X5_thoseLooking_61, e_X5_thoseLooking_63, e_X5_thoseLooking_66, e_X5_thoseLooking_72, e_X5_thoseLooking_75, e_X5_thoseLooking_77, hh]
/-- a thing, or none, as a number -/
def oN : Option Nat → Int32
  | none => -1
  | some x => nI x
/-- what an NP means without its links -/
def aln (so co si : Nat → Int32) (ts : Nat → Nat → Bool) (it th one : Option Nat) (q : PhT) (k x : Nat) : Bool :=
  if pK q k = 0 then decide (it = some x) else if pK q k = 1 then decide (th = some x) else nsw so ts (nres one (pN q k)) x && sch co si (pL q k) 6 x
theorem bs_opt {o : Option Nat} (ho : ∀ x, o = some x → x < T) (h16 : T ≤ 16) : (match o with | none => (0 : Int32) | some j => bs (fun y => decide (y = j)) T) = bs (fun x => decide (o = some x)) T := by
  cases o with
  | none => exact (bs_none (fun x _ => by simp)).symm
  | some j => exact bs_congr (by omega) (fun x _ => by simp [eq_comm])
theorem x_justo (hR : RG R a b) (hT : I 1 5 = nI T) (h16 : T ≤ 16) {o : Option Nat} (ho : ∀ x, o = some x → x < T) : Ev mX5_justThis 0 [.ref 27, .int (oN o)] [] (71 + e, I, L, R) = some (some (.int (bs (fun x => decide (o = some x)) T)), (71 + e, I, L, R)) := by
  rw [← bs_opt ho h16]
  cases o with
  | none => exact x_just_out hR hT h16 (Or.inl (by show (-1 : Int32) < 0; decide))
  | some j => exact x_just_in hR hT h16 (ho j rfl)
theorem won_res {nw : Nat} {one : Option Nat} {w : Nat} (h1 : won nw one) (hw : w < 5 ∨ (29 ≤ w ∧ w < 29 + nw)) : won nw (nres one w) := by
  unfold nres
  by_cases h : w = 4
  · rw [if_pos h]; exact h1
  · rw [if_neg h]
    intro v hv
    cases hv
    omega
theorem x_meantAlone (hR : RG R a b) (hT : I 1 5 = nI T) (h16 : T ≤ 16) (hp : PH (71 + e) R p) (hq : PX I p q) {nw : Nat} (h8 : nw ≤ 8) (hw : wfq nw q) (hk : k < pP q) {ts : Nat → Nat → Bool} (hts : ∀ k, k < nw → I 30 k = bs (ts k) T) {it th one : Option Nat} (h1 : won nw one) (hit : ∀ x, it = some x → x < T) (hth : ∀ x, th = some x → x < T)
    (hm : Ev mX0_mentionedBack 0 [.ref 15, .int 0] [] (71 + e, I, L, R) = some (some (.int (oN it)), (71 + e, I, L, R))) (hl : Ev mX3_lastMoved 0 [.ref 1] [] (71 + e, I, L, R) = some (some (.int (oN th)), (71 + e, I, L, R))) :
    Ev mX5_meantAlone 0 [.ref 27, .ref p, .int (nI k), .int (oX one), .float 0] [] (71 + e, I, L, R) = some (some (.int (bs (aln (I 2) (I 3) (I 4) ts it th one q k) T)), (71 + e, I, L, R)) := by
  have o1 := hp.1
  have hkk := hw.2.2.1 k hk
  unfold aln
  by_cases h0 : pK q k = 0
  · have hc : ckd (pK q k) = 23 := by rw [h0]; rfl
    simp only [if_pos h0]
    simp (disch := first | exact rt_bo_0 | exact rt_bo_1 | exact ns_float | exact ns_int | exact ns_ref | assumption | omega | (simp (disch := omega) only [ob_27, rg_27_0 hR, rg_27_1 hR, rg_27_2 hR, rg_27_3 hR, ar_28, ln_28, rg_27_4 hR, ar_29, ln_29, rg_27_5 hR, ar_30, ln_30, ob_1, rg_1_0 hR, ar_2, ln_2, rg_1_1 hR, ar_3, ln_3, rg_1_2 hR, ar_4, ln_4, rg_1_3 hR, ar_5, ln_5, rg_1_4 hR, ar_6, ln_6, ob_15, rg_15_0 hR, ar_16, ln_16, o1, rt_in_nI, Option.isSome_some, Option.getD_some, Bool.or_true, Bool.true_or]; done) | fail) only [e_X5_meantAlone_0, e_X5_meantAlone_1, e_X5_meantAlone_2, e_X5_meantAlone_5, e_X5_meantAlone_32, e_X5_meantAlone_33, e_X5_meantAlone_34, e_X5_meantAlone_37, e_X5_meantAlone_38, e_X5_meantAlone_41, e_X5_meantAlone_44, e_X5_meantAlone_45, e_X5_meantAlone_46, e_X5_meantAlone_47, e_X5_meantAlone_50, e_X5_meantAlone_53, e_X5_meantAlone_56, e_X5_meantAlone_57, e_X5_meantAlone_58, e_X5_meantAlone_59, e_X5_meantAlone_62, e_X5_meantAlone_64, e_X5_meantAlone_65, e_X5_meantAlone_66, e_X5_meantAlone_67, e_X5_meantAlone_68, e_X5_meantAlone_70, e_X5_meantAlone_71, e_X5_meantAlone_74, e_X5_meantAlone_75, e_X5_meantAlone_78, e_X5_meantAlone_80, e_X5_meantAlone_83, e_X5_meantAlone_86, x_kind hp hq hw.1 hk, hc, rg_27_2 hR, hm, x_justo hR hT h16 hit, if_true, Option.getD_some, Option.bind_some, Option.toList_some, Option.toList_none, List.cons_append, List.nil_append]
  · by_cases h1' : pK q k = 1
    · have hc : ckd (pK q k) = 24 := by rw [h1']; rfl
      have d : ((24 : Int32) = 23) = False := by decide
      simp only [if_neg h0, if_pos h1']
      simp (disch := first | exact rt_bo_0 | exact rt_bo_1 | exact ns_float | exact ns_int | exact ns_ref | assumption | omega | (simp (disch := omega) only [ob_27, rg_27_0 hR, rg_27_1 hR, rg_27_2 hR, rg_27_3 hR, ar_28, ln_28, rg_27_4 hR, ar_29, ln_29, rg_27_5 hR, ar_30, ln_30, ob_1, rg_1_0 hR, ar_2, ln_2, rg_1_1 hR, ar_3, ln_3, rg_1_2 hR, ar_4, ln_4, rg_1_3 hR, ar_5, ln_5, rg_1_4 hR, ar_6, ln_6, ob_15, rg_15_0 hR, ar_16, ln_16, o1, rt_in_nI, Option.isSome_some, Option.getD_some, Bool.or_true, Bool.true_or]; done) | fail) only [e_X5_meantAlone_0, e_X5_meantAlone_1, e_X5_meantAlone_2, e_X5_meantAlone_5, e_X5_meantAlone_32, e_X5_meantAlone_33, e_X5_meantAlone_34, e_X5_meantAlone_37, e_X5_meantAlone_38, e_X5_meantAlone_41, e_X5_meantAlone_44, e_X5_meantAlone_45, e_X5_meantAlone_46, e_X5_meantAlone_47, e_X5_meantAlone_50, e_X5_meantAlone_53, e_X5_meantAlone_56, e_X5_meantAlone_57, e_X5_meantAlone_58, e_X5_meantAlone_59, e_X5_meantAlone_62, e_X5_meantAlone_64, e_X5_meantAlone_65, e_X5_meantAlone_66, e_X5_meantAlone_67, e_X5_meantAlone_68, e_X5_meantAlone_70, e_X5_meantAlone_71, e_X5_meantAlone_74, e_X5_meantAlone_75, e_X5_meantAlone_78, e_X5_meantAlone_80, e_X5_meantAlone_83, e_X5_meantAlone_86, x_kind hp hq hw.1 hk, hc, d, rg_27_0 hR, hl, x_justo hR hT h16 hth, if_true, if_false, Option.getD_some, Option.bind_some, Option.toList_some, Option.toList_none, List.cons_append, List.nil_append]
    · have hk2 : 2 ≤ pK q k := by omega
      have d1 : (ckd (pK q k) = 23) = False ∧ (ckd (pK q k) = 24) = False := by
        unfold ckd
        rw [if_neg h0, if_neg h1']
        constructor <;> (refine eq_false ?_; split <;> (try split) <;> decide)
      have hn : nnX q k = nI (pN q k) := if_neg (by omega)
      have hno := hkk.2 hk2
      have e4 : (4 : Int32) = nI 4 := rfl
      have hr : (if nI (pN q k) = 4 then oX one else nI (pN q k)) = oX (nres one (pN q k)) := by
        unfold nres
        by_cases h : pN q k = 4
        · rw [if_pos h, h]; rfl
        · rw [if_neg h, if_neg (by rw [e4, q_eq (by omega) (by omega)]; exact h)]; rfl
      have hN := x_noun (e := e) (L := L) hR hT h16 h8 (won_res h1 hno) hts
      rw [← hr] at hN
      have hTh := x_those (e := e) (L := L) hR hT h16 hp hq hw.1 hk (V := nsw (I 2) ts (nres one (pN q k)))
      simp only [if_neg h0, if_neg h1']
      by_cases h : nI (pN q k) = 4
      · rw [if_pos h] at hN
        simp (disch := first | exact rt_bo_0 | exact rt_bo_1 | exact ns_float | exact ns_int | exact ns_ref | assumption | omega | (simp (disch := omega) only [ob_27, rg_27_0 hR, rg_27_1 hR, rg_27_2 hR, rg_27_3 hR, ar_28, ln_28, rg_27_4 hR, ar_29, ln_29, rg_27_5 hR, ar_30, ln_30, ob_1, rg_1_0 hR, ar_2, ln_2, rg_1_1 hR, ar_3, ln_3, rg_1_2 hR, ar_4, ln_4, rg_1_3 hR, ar_5, ln_5, rg_1_4 hR, ar_6, ln_6, ob_15, rg_15_0 hR, ar_16, ln_16, o1, rt_in_nI, Option.isSome_some, Option.getD_some, Bool.or_true, Bool.true_or]; done) | fail) only [e_X5_meantAlone_0, e_X5_meantAlone_1, e_X5_meantAlone_2, e_X5_meantAlone_5, e_X5_meantAlone_32, e_X5_meantAlone_33, e_X5_meantAlone_34, e_X5_meantAlone_37, e_X5_meantAlone_38, e_X5_meantAlone_41, e_X5_meantAlone_44, e_X5_meantAlone_45, e_X5_meantAlone_46, e_X5_meantAlone_47, e_X5_meantAlone_50, e_X5_meantAlone_53, e_X5_meantAlone_56, e_X5_meantAlone_57, e_X5_meantAlone_58, e_X5_meantAlone_59, e_X5_meantAlone_62, e_X5_meantAlone_64, e_X5_meantAlone_65, e_X5_meantAlone_66, e_X5_meantAlone_67, e_X5_meantAlone_68, e_X5_meantAlone_70, e_X5_meantAlone_71, e_X5_meantAlone_74, e_X5_meantAlone_75, e_X5_meantAlone_78, e_X5_meantAlone_80, e_X5_meantAlone_83, e_X5_meantAlone_86, x_kind hp hq hw.1 hk, d1.1, d1.2, x_nounOf hp hq hw.1 hk, hn, h, hN, hTh, if_true, if_false, Option.getD_some, Option.bind_some, Option.toList_some, Option.toList_none, List.cons_append, List.nil_append]
      · rw [if_neg h] at hN
        simp (disch := first | exact rt_bo_0 | exact rt_bo_1 | exact ns_float | exact ns_int | exact ns_ref | assumption | omega | (simp (disch := omega) only [ob_27, rg_27_0 hR, rg_27_1 hR, rg_27_2 hR, rg_27_3 hR, ar_28, ln_28, rg_27_4 hR, ar_29, ln_29, rg_27_5 hR, ar_30, ln_30, ob_1, rg_1_0 hR, ar_2, ln_2, rg_1_1 hR, ar_3, ln_3, rg_1_2 hR, ar_4, ln_4, rg_1_3 hR, ar_5, ln_5, rg_1_4 hR, ar_6, ln_6, ob_15, rg_15_0 hR, ar_16, ln_16, o1, rt_in_nI, Option.isSome_some, Option.getD_some, Bool.or_true, Bool.true_or]; done) | fail) only [e_X5_meantAlone_0, e_X5_meantAlone_1, e_X5_meantAlone_2, e_X5_meantAlone_5, e_X5_meantAlone_32, e_X5_meantAlone_33, e_X5_meantAlone_34, e_X5_meantAlone_37, e_X5_meantAlone_38, e_X5_meantAlone_41, e_X5_meantAlone_44, e_X5_meantAlone_45, e_X5_meantAlone_46, e_X5_meantAlone_47, e_X5_meantAlone_50, e_X5_meantAlone_53, e_X5_meantAlone_56, e_X5_meantAlone_57, e_X5_meantAlone_58, e_X5_meantAlone_59, e_X5_meantAlone_62, e_X5_meantAlone_64, e_X5_meantAlone_65, e_X5_meantAlone_66, e_X5_meantAlone_67, e_X5_meantAlone_68, e_X5_meantAlone_70, e_X5_meantAlone_71, e_X5_meantAlone_74, e_X5_meantAlone_75, e_X5_meantAlone_78, e_X5_meantAlone_80, e_X5_meantAlone_83, e_X5_meantAlone_86, x_kind hp hq hw.1 hk, d1.1, d1.2, x_nounOf hp hq hw.1 hk, hn, h, hN, hTh, if_true, if_false, Option.getD_some, Option.bind_some, Option.toList_some, Option.toList_none, List.cons_append, List.nil_append]
end P20

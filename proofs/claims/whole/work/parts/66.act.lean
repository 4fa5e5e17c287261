section P6
variable {e : Nat} {I : Nat → Nat → Int32} {L : Nat → Nat → Int64} {R : Nat → Nat → Option Nat} {a b T j n : Nat} {x k : Int32}
/-- what stands on thing j, as the class asks -/
def otp (T : Nat) (so at_ : Nat → Int32) (j : Nat) : Int32 := if so j = 0 then ff (fun i => at_ i = nI j) 0 T else -1
/-- what the class says of an act at thing j -/
def cXi (hd : Int32) (T : Nat) (so at_ : Nat → Int32) (k : Int32) (j : Nat) : Int32 :=
  if k = 0 then
    if hd = -1 then
      if so j = 2 then 0
      else if (if so j = 0 then ff (fun i => at_ i = nI j) 0 T else -1) = -1 then 1 else 0
    else 0
  else
    if k = 1 then
      if hd = -1 then 0
      else
        if hd = nI j then 0
        else
          if (if so j = 0 then (1 : Int32) else 0) = 0 then 0
          else if (if so j = 0 then ff (fun i => at_ i = nI j) 0 T else -1) = -1 then 1 else 0
    else
      if k = 2 then if hd = -1 then 0 else 0
      else if k = 3 then if hd = -1 then 0 else if (if so j = 2 then (1 : Int32) else 0) = 0 then 0 else 1 else 0
/-- at what is no thing -/
def cXo (hd k x : Int32) : Int32 :=
  if k = 0 then if hd = -1 then 0 else 0
  else
    if k = 1 then if hd = -1 then 0 else if hd = x then 0 else 0
    else
      if k = 2 then if hd = -1 then 0 else if x = -1 then 1 else 0
      else if k = 3 then if hd = -1 then 0 else 0 else 0
/-- what the reference says -/
def cMi (hd : Int32) (T : Nat) (so at_ : Nat → Int32) (k : Int32) (j : Nat) : Int32 :=
  if k = 0 then
    if hd = -1 then
      if so j = 2 then 0
      else if (if so j = 2 then -1 else ff (fun i => at_ i = nI j) 0 T) = -1 then 1 else 0
    else 0
  else
    if hd = -1 then 0
    else
      if k = 2 then 0
      else
        if nI j = hd then 0
        else
          if k = 1 then
            if so j = 0 then
              if (if so j = 2 then -1 else ff (fun i => at_ i = nI j) 0 T) = -1 then 1 else 0
            else 0
          else if so j = 2 then 1 else 0
def cMo (hd k x : Int32) : Int32 := if k = 0 then if hd = -1 then 0 else 0 else if hd = -1 then 0 else if k = 2 then if x = -1 then 1 else 0 else 0
theorem x_allows_in (hR : RG R a b) (hT : I 1 5 = nI T) (h16 : T ≤ 16) (hj : j < T) : Ev mX3_allows 0 [.ref 1, .int k, .int (nI j)] [] (71 + e, I, L, R) = some (some (.int (cXi (I 1 7) T (I 2) (I 5) k j)), (71 + e, I, L, R)) := by
  simp (disch := first | exact rt_bo_0 | exact rt_bo_1 | exact ns_float | exact ns_int | exact ns_ref | omega | (simp (disch := omega) only [ob_0, rg_0_0 hR, rg_0_1 hR, rg_0_2 hR, rg_0_3 hR, rg_0_4 hR, rg_0_5 hR, rg_0_6 hR, ob_1, rg_1_0 hR, ar_2, ln_2, rg_1_1 hR, ar_3, ln_3, rg_1_2 hR, ar_4, ln_4, rg_1_3 hR, ar_5, ln_5, rg_1_4 hR, ar_6, ln_6, rt_in_nI, Option.isSome_some, Option.getD_some]; done) | fail) only [e_X3_allows_0, e_X3_allows_1, e_X3_allows_32, e_X3_allows_33, e_X3_allows_36, e_X3_allows_37, e_X3_allows_40, e_X3_allows_41, e_X3_allows_42, e_X3_allows_45, e_X3_allows_48, e_X3_allows_49, e_X3_allows_52, e_X3_allows_53, e_X3_allows_54, e_X3_allows_55, e_X3_allows_58, e_X3_allows_59, e_X3_allows_60, e_X3_allows_63, e_X3_allows_64, e_X3_allows_67, e_X3_allows_68, e_X3_allows_71, e_X3_allows_72, e_X3_allows_73, e_X3_allows_74, e_X3_allows_77, e_X3_allows_78, e_X3_allows_81, e_X3_allows_82, e_X3_allows_85, e_X3_allows_86, e_X3_allows_89, e_X3_allows_90, e_X3_allows_91, e_X3_allows_92, e_X3_allows_95, e_X3_allows_98, e_X3_allows_99, e_X3_allows_100, e_X3_allows_103, e_X3_allows_104, e_X3_allows_107, e_X3_allows_108, e_X3_allows_111, e_X3_allows_112, e_X3_allows_113, e_X3_allows_114, e_X3_allows_117, e_X3_allows_118, e_X3_allows_121, e_X3_allows_122, e_X3_allows_123, e_X3_allows_126, e_X3_allows_127, e_X3_allows_130, e_X3_allows_131, e_X3_allows_132, e_X3_allows_133, e_X3_allows_136, e_X3_allows_137, e_X3_allows_140, e_X3_allows_141, e_X3_allows_142, e_X3_allows_143, e_X3_allows_146, e_X3_allows_149, e_X3_allows_150, e_X3_allows_153, e_X3_allows_154, e_X3_allows_155, e_X3_allows_156, x_has_in hR hT h16 hj, x_isSort_in hR hT h16 hj, x_onTop_in hR hT h16 hj, rg_1_0 hR, hT, Option.getD_some, Option.bind_some, Option.toList_some, List.cons_append, List.nil_append, q_10, q_m10, q_00, q_lt, q_le, q_l0, q_0l, q_e1, q_eq, nI_cl, q_s, if_false, if_true, q_some, q_pair, q_int]
  rfl
theorem x_allows_out (hR : RG R a b) (hT : I 1 5 = nI T) (h16 : T ≤ 16) (hx : xout x T) : Ev mX3_allows 0 [.ref 1, .int k, .int x] [] (71 + e, I, L, R) = some (some (.int (cXo (I 1 7) k x)), (71 + e, I, L, R)) := by
  simp (disch := first | exact rt_bo_0 | exact rt_bo_1 | exact ns_float | exact ns_int | exact ns_ref | omega | (simp (disch := omega) only [ob_0, rg_0_0 hR, rg_0_1 hR, rg_0_2 hR, rg_0_3 hR, rg_0_4 hR, rg_0_5 hR, rg_0_6 hR, ob_1, rg_1_0 hR, ar_2, ln_2, rg_1_1 hR, ar_3, ln_3, rg_1_2 hR, ar_4, ln_4, rg_1_3 hR, ar_5, ln_5, rg_1_4 hR, ar_6, ln_6, rt_in_nI, Option.isSome_some, Option.getD_some]; done) | fail) only [e_X3_allows_0, e_X3_allows_1, e_X3_allows_32, e_X3_allows_33, e_X3_allows_36, e_X3_allows_37, e_X3_allows_40, e_X3_allows_41, e_X3_allows_42, e_X3_allows_45, e_X3_allows_48, e_X3_allows_49, e_X3_allows_52, e_X3_allows_53, e_X3_allows_54, e_X3_allows_55, e_X3_allows_58, e_X3_allows_59, e_X3_allows_60, e_X3_allows_63, e_X3_allows_64, e_X3_allows_67, e_X3_allows_68, e_X3_allows_71, e_X3_allows_72, e_X3_allows_73, e_X3_allows_74, e_X3_allows_77, e_X3_allows_78, e_X3_allows_81, e_X3_allows_82, e_X3_allows_85, e_X3_allows_86, e_X3_allows_89, e_X3_allows_90, e_X3_allows_91, e_X3_allows_92, e_X3_allows_95, e_X3_allows_98, e_X3_allows_99, e_X3_allows_100, e_X3_allows_103, e_X3_allows_104, e_X3_allows_107, e_X3_allows_108, e_X3_allows_111, e_X3_allows_112, e_X3_allows_113, e_X3_allows_114, e_X3_allows_117, e_X3_allows_118, e_X3_allows_121, e_X3_allows_122, e_X3_allows_123, e_X3_allows_126, e_X3_allows_127, e_X3_allows_130, e_X3_allows_131, e_X3_allows_132, e_X3_allows_133, e_X3_allows_136, e_X3_allows_137, e_X3_allows_140, e_X3_allows_141, e_X3_allows_142, e_X3_allows_143, e_X3_allows_146, e_X3_allows_149, e_X3_allows_150, e_X3_allows_153, e_X3_allows_154, e_X3_allows_155, e_X3_allows_156, x_has_out hR hT h16 hx, x_isSort_out hR hT h16 hx, x_onTop_out hR hT h16 hx, rg_1_0 hR, hT, Option.getD_some, Option.bind_some, Option.toList_some, List.cons_append, List.nil_append, q_10, q_m10, q_00, q_lt, q_le, q_l0, q_0l, q_e1, q_eq, nI_cl, q_s, if_false, if_true, q_some, q_pair, q_int]
  rfl
theorem m_can_in (hR : RG R a b) (hT : I 33 0 = nI T) (h16 : T ≤ 16) (hj : j < T) : Ev mX10_can 0 [.ref 33, .int k, .int (nI j)] [] (71 + e, I, L, R) = some (some (.int (cMi (ff (fun i => I 37 i = 17) 0 T) T (I 34) (I 37) k j)), (71 + e, I, L, R)) := by
  simp (disch := first | exact rt_bo_0 | exact rt_bo_1 | exact ns_float | exact ns_int | exact ns_ref | omega | (simp (disch := omega) only [ob_33, rg_33_2 hR, ar_34, ln_34, rg_33_3 hR, ar_35, ln_35, rg_33_4 hR, ar_36, ln_36, rg_33_5 hR, ar_37, ln_37, rg_33_6 hR, ar_38, ln_38, rg_33_7 hR, ar_39, ln_39, rg_33_8 hR, ar_40, ln_40, rg_33_9 hR, ar_41, ln_41, rg_33_10 hR, ar_42, ln_42, rg_33_11 hR, ar_43, ln_43, rg_33_12 hR, ar_44, ln_44, rg_33_19 hR, ar_45, ln_45, rg_33_20 hR, ar_46, ln_46, rg_33_23 hR, ar_47, ln_47, rg_33_24 hR, ar_48, ln_48, rg_33_25 hR, ar_49, ln_49, rg_33_26 hR, ar_50, ln_50, rg_33_27 hR, ar_51, ln_51, rg_33_28 hR, ar_52, ln_52, rg_33_29 hR, ar_53, ln_53, rg_33_30 hR, ar_54, ln_54, rg_33_39 hR, ar_55, ln_55, rg_33_40 hR, ar_56, ln_56, rg_33_41 hR, ar_57, ln_57, rg_33_42 hR, ar_58, ln_58, rg_33_43 hR, ar_59, ln_59, rg_33_44 hR, ar_60, ln_60, rg_33_45 hR, ar_61, ln_61, rg_33_48 hR, ar_62, ln_62, rg_33_49 hR, ar_63, ln_63, rg_33_50 hR, ar_64, ln_64, rg_33_56 hR, ar_65, ln_65, rg_33_57 hR, ar_66, ln_66, rg_33_58 hR, ar_67, ln_67, rg_33_59 hR, ar_68, ln_68, rg_33_66 hR, ar_69, ln_69, rg_33_67 hR, ar_70, ln_70, rt_in_nI, Option.isSome_some, Option.getD_some]; done) | fail) only [e_X10_can_0, e_X10_can_1, e_X10_can_4, e_X10_can_5, e_X10_can_8, e_X10_can_9, e_X10_can_12, e_X10_can_13, e_X10_can_14, e_X10_can_17, e_X10_can_20, e_X10_can_21, e_X10_can_24, e_X10_can_25, e_X10_can_26, e_X10_can_27, e_X10_can_30, e_X10_can_31, e_X10_can_32, e_X10_can_35, e_X10_can_36, e_X10_can_39, e_X10_can_40, e_X10_can_43, e_X10_can_44, e_X10_can_45, e_X10_can_46, e_X10_can_49, e_X10_can_50, e_X10_can_53, e_X10_can_54, e_X10_can_55, e_X10_can_56, e_X10_can_57, e_X10_can_60, e_X10_can_61, e_X10_can_62, e_X10_can_65, e_X10_can_66, e_X10_can_69, e_X10_can_70, e_X10_can_71, e_X10_can_72, e_X10_can_73, e_X10_can_76, e_X10_can_79, e_X10_can_80, e_X10_can_81, e_X10_can_84, e_X10_can_87, e_X10_can_88, e_X10_can_89, e_X10_can_90, e_X10_can_91, e_X10_can_94, e_X10_can_95, e_X10_can_98, e_X10_can_99, e_X10_can_100, e_X10_can_103, e_X10_can_104, e_X10_can_105, e_X10_can_108, e_X10_can_109, e_X10_can_112, e_X10_can_113, e_X10_can_116, e_X10_can_117, e_X10_can_120, e_X10_can_121, e_X10_can_124, e_X10_can_125, e_X10_can_126, e_X10_can_127, e_X10_can_130, e_X10_can_131, e_X10_can_134, e_X10_can_135, m_isThing_in hR hT h16 hj, m_above hR hT h16 hj, m_held hR hT h16, rg_33_2 hR, hT, Option.getD_some, Option.bind_some, Option.toList_some, List.cons_append, List.nil_append, q_10, q_m10, q_00, q_lt, q_le, q_l0, q_0l, q_e1, q_eq, nI_cl, q_s, if_false, if_true, q_some, q_pair, q_int]
  rfl
theorem m_can_out (hR : RG R a b) (hT : I 33 0 = nI T) (h16 : T ≤ 16) (hx : xout x T) : Ev mX10_can 0 [.ref 33, .int k, .int x] [] (71 + e, I, L, R) = some (some (.int (cMo (ff (fun i => I 37 i = 17) 0 T) k x)), (71 + e, I, L, R)) := by
  simp (disch := first | exact rt_bo_0 | exact rt_bo_1 | exact ns_float | exact ns_int | exact ns_ref | omega | (simp (disch := omega) only [ob_33, rg_33_2 hR, ar_34, ln_34, rg_33_3 hR, ar_35, ln_35, rg_33_4 hR, ar_36, ln_36, rg_33_5 hR, ar_37, ln_37, rg_33_6 hR, ar_38, ln_38, rg_33_7 hR, ar_39, ln_39, rg_33_8 hR, ar_40, ln_40, rg_33_9 hR, ar_41, ln_41, rg_33_10 hR, ar_42, ln_42, rg_33_11 hR, ar_43, ln_43, rg_33_12 hR, ar_44, ln_44, rg_33_19 hR, ar_45, ln_45, rg_33_20 hR, ar_46, ln_46, rg_33_23 hR, ar_47, ln_47, rg_33_24 hR, ar_48, ln_48, rg_33_25 hR, ar_49, ln_49, rg_33_26 hR, ar_50, ln_50, rg_33_27 hR, ar_51, ln_51, rg_33_28 hR, ar_52, ln_52, rg_33_29 hR, ar_53, ln_53, rg_33_30 hR, ar_54, ln_54, rg_33_39 hR, ar_55, ln_55, rg_33_40 hR, ar_56, ln_56, rg_33_41 hR, ar_57, ln_57, rg_33_42 hR, ar_58, ln_58, rg_33_43 hR, ar_59, ln_59, rg_33_44 hR, ar_60, ln_60, rg_33_45 hR, ar_61, ln_61, rg_33_48 hR, ar_62, ln_62, rg_33_49 hR, ar_63, ln_63, rg_33_50 hR, ar_64, ln_64, rg_33_56 hR, ar_65, ln_65, rg_33_57 hR, ar_66, ln_66, rg_33_58 hR, ar_67, ln_67, rg_33_59 hR, ar_68, ln_68, rg_33_66 hR, ar_69, ln_69, rg_33_67 hR, ar_70, ln_70, rt_in_nI, Option.isSome_some, Option.getD_some]; done) | fail) only [e_X10_can_0, e_X10_can_1, e_X10_can_4, e_X10_can_5, e_X10_can_8, e_X10_can_9, e_X10_can_12, e_X10_can_13, e_X10_can_14, e_X10_can_17, e_X10_can_20, e_X10_can_21, e_X10_can_24, e_X10_can_25, e_X10_can_26, e_X10_can_27, e_X10_can_30, e_X10_can_31, e_X10_can_32, e_X10_can_35, e_X10_can_36, e_X10_can_39, e_X10_can_40, e_X10_can_43, e_X10_can_44, e_X10_can_45, e_X10_can_46, e_X10_can_49, e_X10_can_50, e_X10_can_53, e_X10_can_54, e_X10_can_55, e_X10_can_56, e_X10_can_57, e_X10_can_60, e_X10_can_61, e_X10_can_62, e_X10_can_65, e_X10_can_66, e_X10_can_69, e_X10_can_70, e_X10_can_71, e_X10_can_72, e_X10_can_73, e_X10_can_76, e_X10_can_79, e_X10_can_80, e_X10_can_81, e_X10_can_84, e_X10_can_87, e_X10_can_88, e_X10_can_89, e_X10_can_90, e_X10_can_91, e_X10_can_94, e_X10_can_95, e_X10_can_98, e_X10_can_99, e_X10_can_100, e_X10_can_103, e_X10_can_104, e_X10_can_105, e_X10_can_108, e_X10_can_109, e_X10_can_112, e_X10_can_113, e_X10_can_116, e_X10_can_117, e_X10_can_120, e_X10_can_121, e_X10_can_124, e_X10_can_125, e_X10_can_126, e_X10_can_127, e_X10_can_130, e_X10_can_131, e_X10_can_134, e_X10_can_135, m_isThing_out hR hT h16 hx, m_held hR hT h16, rg_33_2 hR, hT, Option.getD_some, Option.bind_some, Option.toList_some, List.cons_append, List.nil_append, q_10, q_m10, q_00, q_lt, q_le, q_l0, q_0l, q_e1, q_eq, nI_cl, q_s, if_false, if_true, q_some, q_pair, q_int]
  rfl
/-- a room that may be: places, hand, what stands on what, and an order that grows upwards -/
def RoomOK (T : Nat) (so at_ : Nat → Int32) : Prop :=
  (∀ i, i < T → at_ i = 16 ∨ at_ i = 17 ∨ ∃ j, j < T ∧ at_ i = nI j ∧ (so j = 0 ∨ so j = 2)) ∧
  (∀ i k, i < T → k < T → at_ i = 17 → at_ k = 17 → i = k) ∧
  (∀ i k j, i < T → k < T → j < T → so j = 0 → at_ i = nI j → at_ k = nI j → i = k) ∧
  (∀ i, i < T → at_ i = 17 → so i ≠ 2 ∧ ∀ k, k < T → at_ k ≠ nI i) ∧
  (∀ i, i < T → so i = 2 → at_ i = 16) ∧
  ∃ ord : Nat → Nat, (∀ i, i < T → ord i < T) ∧ (∀ i k, i < T → k < T → ord i = ord k → i = k) ∧ ∀ i j, i < T → j < T → at_ i = nI j → ord j < ord i
theorem ff_none {p : Nat → Prop} [DecidablePred p] {k y : Nat} (h : ∀ i, y ≤ i → i < y + k → ¬ p i) : ff p y k = -1 := by
  rcases ff_cases p k y with ⟨h1, -⟩ | ⟨i, h1, h2, h3, -, -⟩
  · exact h1
  · exact absurd h3 (h i h1 h2)
/-- nothing stands on what is no block and no box -/
theorem otp_eq {T : Nat} {so at_ : Nat → Int32} (hO : RoomOK T so at_) (h16 : T ≤ 16) {j : Nat} (hj : j < T) : (if so j = 2 then -1 else ff (fun i => at_ i = nI j) 0 T) = otp T so at_ j := by
  unfold otp
  by_cases h0 : so j = 0
  · have h2 : ¬ so j = 2 := by rw [h0]; decide
    rw [if_pos h0, if_neg h2]
  · rw [if_neg h0]
    by_cases h2 : so j = 2
    · rw [if_pos h2]
    · rw [if_neg h2]
      refine ff_none (fun i _ hi hp => ?_)
      rcases hO.1 i (by omega) with h | h | ⟨j2, hj2, h, hs⟩
      · rw [h] at hp
        have h5 : (16 : Int32) = nI 16 := rfl
        rw [h5, q_eq (by omega) (by omega)] at hp
        omega
      · rw [h] at hp
        have h5 : (17 : Int32) = nI 17 := rfl
        rw [h5, q_eq (by omega) (by omega)] at hp
        omega
      · rw [h, q_eq (by omega) (by omega)] at hp
        subst hp
        rcases hs with hs | hs
        · exact h0 hs
        · exact h2 hs
end P6

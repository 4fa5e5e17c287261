section P37
variable {e : Nat} {I I2 : Nat → Nat → Int32} {L : Nat → Nat → Int64} {R : Nat → Nat → Option Nat} {a b T j n k p i base c : Nat} {x y w last to_ : Int32} {so m m1 m2 at_ : Nat → Int32} {acc : List Nat} {l l1 l2 : List AcT}
theorem m_mab_l (hR : RG R a b) (hT : I 33 0 = nI T) (h16 : T ≤ 16) : ∀ (f y : Nat), y + f = T → Ev mX10_mindAbove 14 [.ref 33, .int x, .int (nI y)] [] (71 + e, I, L, R) = some (some (.int (ff (fun i => I 65 i = x) y f)), (71 + e, I, L, R)) := by
  intro f
  induction f with
  | zero =>
    intro y hy
    have c : T ≤ y := by omega
    rw [e_X10_mindAbove_14]
    simp (disch := first | exact rt_bo_0 | exact rt_bo_1 | exact ns_float | exact ns_int | exact ns_ref | assumption | omega | (simp (disch := omega) only [ob_33, rg_33_2 hR, ar_34, ln_34, rg_33_3 hR, ar_35, ln_35, rg_33_4 hR, ar_36, ln_36, rg_33_5 hR, ar_37, ln_37, rg_33_6 hR, ar_38, ln_38, rg_33_7 hR, ar_39, ln_39, rg_33_8 hR, ar_40, ln_40, rg_33_9 hR, ar_41, ln_41, rg_33_10 hR, ar_42, ln_42, rg_33_11 hR, ar_43, ln_43, rg_33_12 hR, ar_44, ln_44, rg_33_19 hR, ar_45, ln_45, rg_33_20 hR, ar_46, ln_46, rg_33_23 hR, ar_47, ln_47, rg_33_24 hR, ar_48, ln_48, rg_33_25 hR, ar_49, ln_49, rg_33_26 hR, ar_50, ln_50, rg_33_27 hR, ar_51, ln_51, rg_33_28 hR, ar_52, ln_52, rg_33_29 hR, ar_53, ln_53, rg_33_30 hR, ar_54, ln_54, rg_33_39 hR, ar_55, ln_55, rg_33_40 hR, ar_56, ln_56, rg_33_41 hR, ar_57, ln_57, rg_33_42 hR, ar_58, ln_58, rg_33_43 hR, ar_59, ln_59, rg_33_44 hR, ar_60, ln_60, rg_33_45 hR, ar_61, ln_61, rg_33_48 hR, ar_62, ln_62, rg_33_49 hR, ar_63, ln_63, rg_33_50 hR, ar_64, ln_64, rg_33_56 hR, ar_65, ln_65, rg_33_57 hR, ar_66, ln_66, rg_33_58 hR, ar_67, ln_67, rg_33_59 hR, ar_68, ln_68, rg_33_66 hR, ar_69, ln_69, rg_33_67 hR, ar_70, ln_70, rt_in_nI, Option.isSome_some, Option.getD_some, Bool.or_true, Bool.true_or]; done) | fail) only [e_X10_mindAbove_0, e_X10_mindAbove_1, e_X10_mindAbove_4, e_X10_mindAbove_5, e_X10_mindAbove_6, e_X10_mindAbove_7, e_X10_mindAbove_10, e_X10_mindAbove_11, e_X10_mindAbove_12, e_X10_mindAbove_13, e_X10_mindAbove_15, e_X10_mindAbove_16, e_X10_mindAbove_19, e_X10_mindAbove_22, e_X10_mindAbove_23, e_X10_mindAbove_26, e_X10_mindAbove_27, e_X10_mindAbove_28, e_X10_mindAbove_29, e_X10_mindAbove_32, e_X10_mindAbove_33, e_X10_mindAbove_34, e_X10_mindAbove_37, e_X10_mindAbove_40, e_X10_mindAbove_41, hT, q_le, c, if_true, ff, Option.getD_some, Option.bind_some, Option.toList_some, Option.toList_none, List.cons_append, List.nil_append]
  | succ f ih =>
    intro y hy
    have c : ¬ T ≤ y := by omega
    have hh := ih (y + 1) (by omega)
    rw [e_X10_mindAbove_14]
    simp (disch := first | exact rt_bo_0 | exact rt_bo_1 | exact ns_float | exact ns_int | exact ns_ref | assumption | omega | (simp (disch := omega) only [ob_33, rg_33_2 hR, ar_34, ln_34, rg_33_3 hR, ar_35, ln_35, rg_33_4 hR, ar_36, ln_36, rg_33_5 hR, ar_37, ln_37, rg_33_6 hR, ar_38, ln_38, rg_33_7 hR, ar_39, ln_39, rg_33_8 hR, ar_40, ln_40, rg_33_9 hR, ar_41, ln_41, rg_33_10 hR, ar_42, ln_42, rg_33_11 hR, ar_43, ln_43, rg_33_12 hR, ar_44, ln_44, rg_33_19 hR, ar_45, ln_45, rg_33_20 hR, ar_46, ln_46, rg_33_23 hR, ar_47, ln_47, rg_33_24 hR, ar_48, ln_48, rg_33_25 hR, ar_49, ln_49, rg_33_26 hR, ar_50, ln_50, rg_33_27 hR, ar_51, ln_51, rg_33_28 hR, ar_52, ln_52, rg_33_29 hR, ar_53, ln_53, rg_33_30 hR, ar_54, ln_54, rg_33_39 hR, ar_55, ln_55, rg_33_40 hR, ar_56, ln_56, rg_33_41 hR, ar_57, ln_57, rg_33_42 hR, ar_58, ln_58, rg_33_43 hR, ar_59, ln_59, rg_33_44 hR, ar_60, ln_60, rg_33_45 hR, ar_61, ln_61, rg_33_48 hR, ar_62, ln_62, rg_33_49 hR, ar_63, ln_63, rg_33_50 hR, ar_64, ln_64, rg_33_56 hR, ar_65, ln_65, rg_33_57 hR, ar_66, ln_66, rg_33_58 hR, ar_67, ln_67, rg_33_59 hR, ar_68, ln_68, rg_33_66 hR, ar_69, ln_69, rg_33_67 hR, ar_70, ln_70, rt_in_nI, Option.isSome_some, Option.getD_some, Bool.or_true, Bool.true_or]; done) | fail) only [e_X10_mindAbove_0, e_X10_mindAbove_1, e_X10_mindAbove_4, e_X10_mindAbove_5, e_X10_mindAbove_6, e_X10_mindAbove_7, e_X10_mindAbove_10, e_X10_mindAbove_11, e_X10_mindAbove_12, e_X10_mindAbove_13, e_X10_mindAbove_15, e_X10_mindAbove_16, e_X10_mindAbove_19, e_X10_mindAbove_22, e_X10_mindAbove_23, e_X10_mindAbove_26, e_X10_mindAbove_27, e_X10_mindAbove_28, e_X10_mindAbove_29, e_X10_mindAbove_32, e_X10_mindAbove_33, e_X10_mindAbove_34, e_X10_mindAbove_37, e_X10_mindAbove_40, e_X10_mindAbove_41, hT, q_le, q_s, c, rg_33_56 hR, nI_cl, if_false, ff, Option.getD_some, Option.bind_some, Option.toList_some, Option.toList_none, List.cons_append, List.nil_append]
    rw [hh]
    by_cases h : I 65 y = x
    · rw [if_pos h, if_pos h]
    · rw [if_neg h, if_neg h]
theorem m_mab (hR : RG R a b) (hT : I 33 0 = nI T) (h16 : T ≤ 16) (hO : RoomOK T (I 34) (I 65)) (hj : j < T) : Ev mX10_mindAbove 0 [.ref 33, .int (nI j), .float 0] [] (71 + e, I, L, R) = some (some (.int (otp T (I 34) (I 65) j)), (71 + e, I, L, R)) := by
  have hh := m_mab_l (e := e) (L := L) (x := nI j) hR hT h16 T 0 (by omega)
  rw [nI_0] at hh
  rw [← otp_eq hO h16 hj]
  simp (disch := first | exact rt_bo_0 | exact rt_bo_1 | exact ns_float | exact ns_int | exact ns_ref | assumption | omega | (simp (disch := omega) only [ob_33, rg_33_2 hR, ar_34, ln_34, rg_33_3 hR, ar_35, ln_35, rg_33_4 hR, ar_36, ln_36, rg_33_5 hR, ar_37, ln_37, rg_33_6 hR, ar_38, ln_38, rg_33_7 hR, ar_39, ln_39, rg_33_8 hR, ar_40, ln_40, rg_33_9 hR, ar_41, ln_41, rg_33_10 hR, ar_42, ln_42, rg_33_11 hR, ar_43, ln_43, rg_33_12 hR, ar_44, ln_44, rg_33_19 hR, ar_45, ln_45, rg_33_20 hR, ar_46, ln_46, rg_33_23 hR, ar_47, ln_47, rg_33_24 hR, ar_48, ln_48, rg_33_25 hR, ar_49, ln_49, rg_33_26 hR, ar_50, ln_50, rg_33_27 hR, ar_51, ln_51, rg_33_28 hR, ar_52, ln_52, rg_33_29 hR, ar_53, ln_53, rg_33_30 hR, ar_54, ln_54, rg_33_39 hR, ar_55, ln_55, rg_33_40 hR, ar_56, ln_56, rg_33_41 hR, ar_57, ln_57, rg_33_42 hR, ar_58, ln_58, rg_33_43 hR, ar_59, ln_59, rg_33_44 hR, ar_60, ln_60, rg_33_45 hR, ar_61, ln_61, rg_33_48 hR, ar_62, ln_62, rg_33_49 hR, ar_63, ln_63, rg_33_50 hR, ar_64, ln_64, rg_33_56 hR, ar_65, ln_65, rg_33_57 hR, ar_66, ln_66, rg_33_58 hR, ar_67, ln_67, rg_33_59 hR, ar_68, ln_68, rg_33_66 hR, ar_69, ln_69, rg_33_67 hR, ar_70, ln_70, rt_in_nI, Option.isSome_some, Option.getD_some, Bool.or_true, Bool.true_or]; done) | fail) only [e_X10_mindAbove_0, e_X10_mindAbove_1, e_X10_mindAbove_4, e_X10_mindAbove_5, e_X10_mindAbove_6, e_X10_mindAbove_7, e_X10_mindAbove_10, e_X10_mindAbove_11, e_X10_mindAbove_12, e_X10_mindAbove_13, e_X10_mindAbove_15, e_X10_mindAbove_16, e_X10_mindAbove_19, e_X10_mindAbove_22, e_X10_mindAbove_23, e_X10_mindAbove_26, e_X10_mindAbove_27, e_X10_mindAbove_28, e_X10_mindAbove_29, e_X10_mindAbove_32, e_X10_mindAbove_33, e_X10_mindAbove_34, e_X10_mindAbove_37, e_X10_mindAbove_40, e_X10_mindAbove_41, rg_33_2 hR, nI_cl, hh, Option.getD_some, Option.bind_some, Option.toList_some, Option.toList_none, List.cons_append, List.nil_append]
  by_cases h : I 34 j = 2
  · rw [if_pos h, if_pos h]
  · rw [if_neg h, if_neg h]
theorem m_mhe_l (hR : RG R a b) (hT : I 33 0 = nI T) (h16 : T ≤ 16) : ∀ (f y : Nat), y + f = T → Ev mX10_mindHeld 2 [.ref 33, .int (nI y)] [] (71 + e, I, L, R) = some (some (.int (ff (fun i => I 65 i = 17) y f)), (71 + e, I, L, R)) := by
  intro f
  induction f with
  | zero =>
    intro y hy
    have c : T ≤ y := by omega
    rw [e_X10_mindHeld_2]
    simp (disch := first | exact rt_bo_0 | exact rt_bo_1 | exact ns_float | exact ns_int | exact ns_ref | assumption | omega | (simp (disch := omega) only [ob_33, rg_33_2 hR, ar_34, ln_34, rg_33_3 hR, ar_35, ln_35, rg_33_4 hR, ar_36, ln_36, rg_33_5 hR, ar_37, ln_37, rg_33_6 hR, ar_38, ln_38, rg_33_7 hR, ar_39, ln_39, rg_33_8 hR, ar_40, ln_40, rg_33_9 hR, ar_41, ln_41, rg_33_10 hR, ar_42, ln_42, rg_33_11 hR, ar_43, ln_43, rg_33_12 hR, ar_44, ln_44, rg_33_19 hR, ar_45, ln_45, rg_33_20 hR, ar_46, ln_46, rg_33_23 hR, ar_47, ln_47, rg_33_24 hR, ar_48, ln_48, rg_33_25 hR, ar_49, ln_49, rg_33_26 hR, ar_50, ln_50, rg_33_27 hR, ar_51, ln_51, rg_33_28 hR, ar_52, ln_52, rg_33_29 hR, ar_53, ln_53, rg_33_30 hR, ar_54, ln_54, rg_33_39 hR, ar_55, ln_55, rg_33_40 hR, ar_56, ln_56, rg_33_41 hR, ar_57, ln_57, rg_33_42 hR, ar_58, ln_58, rg_33_43 hR, ar_59, ln_59, rg_33_44 hR, ar_60, ln_60, rg_33_45 hR, ar_61, ln_61, rg_33_48 hR, ar_62, ln_62, rg_33_49 hR, ar_63, ln_63, rg_33_50 hR, ar_64, ln_64, rg_33_56 hR, ar_65, ln_65, rg_33_57 hR, ar_66, ln_66, rg_33_58 hR, ar_67, ln_67, rg_33_59 hR, ar_68, ln_68, rg_33_66 hR, ar_69, ln_69, rg_33_67 hR, ar_70, ln_70, rt_in_nI, Option.isSome_some, Option.getD_some, Bool.or_true, Bool.true_or]; done) | fail) only [e_X10_mindHeld_0, e_X10_mindHeld_1, e_X10_mindHeld_3, e_X10_mindHeld_4, e_X10_mindHeld_7, e_X10_mindHeld_10, e_X10_mindHeld_11, e_X10_mindHeld_14, e_X10_mindHeld_15, e_X10_mindHeld_16, e_X10_mindHeld_18, e_X10_mindHeld_21, e_X10_mindHeld_22, e_X10_mindHeld_23, e_X10_mindHeld_26, e_X10_mindHeld_29, e_X10_mindHeld_30, hT, q_le, c, if_true, ff, Option.getD_some, Option.bind_some, Option.toList_some, Option.toList_none, List.cons_append, List.nil_append]
  | succ f ih =>
    intro y hy
    have c : ¬ T ≤ y := by omega
    have hh := ih (y + 1) (by omega)
    rw [e_X10_mindHeld_2]
    simp (disch := first | exact rt_bo_0 | exact rt_bo_1 | exact ns_float | exact ns_int | exact ns_ref | assumption | omega | (simp (disch := omega) only [ob_33, rg_33_2 hR, ar_34, ln_34, rg_33_3 hR, ar_35, ln_35, rg_33_4 hR, ar_36, ln_36, rg_33_5 hR, ar_37, ln_37, rg_33_6 hR, ar_38, ln_38, rg_33_7 hR, ar_39, ln_39, rg_33_8 hR, ar_40, ln_40, rg_33_9 hR, ar_41, ln_41, rg_33_10 hR, ar_42, ln_42, rg_33_11 hR, ar_43, ln_43, rg_33_12 hR, ar_44, ln_44, rg_33_19 hR, ar_45, ln_45, rg_33_20 hR, ar_46, ln_46, rg_33_23 hR, ar_47, ln_47, rg_33_24 hR, ar_48, ln_48, rg_33_25 hR, ar_49, ln_49, rg_33_26 hR, ar_50, ln_50, rg_33_27 hR, ar_51, ln_51, rg_33_28 hR, ar_52, ln_52, rg_33_29 hR, ar_53, ln_53, rg_33_30 hR, ar_54, ln_54, rg_33_39 hR, ar_55, ln_55, rg_33_40 hR, ar_56, ln_56, rg_33_41 hR, ar_57, ln_57, rg_33_42 hR, ar_58, ln_58, rg_33_43 hR, ar_59, ln_59, rg_33_44 hR, ar_60, ln_60, rg_33_45 hR, ar_61, ln_61, rg_33_48 hR, ar_62, ln_62, rg_33_49 hR, ar_63, ln_63, rg_33_50 hR, ar_64, ln_64, rg_33_56 hR, ar_65, ln_65, rg_33_57 hR, ar_66, ln_66, rg_33_58 hR, ar_67, ln_67, rg_33_59 hR, ar_68, ln_68, rg_33_66 hR, ar_69, ln_69, rg_33_67 hR, ar_70, ln_70, rt_in_nI, Option.isSome_some, Option.getD_some, Bool.or_true, Bool.true_or]; done) | fail) only [e_X10_mindHeld_0, e_X10_mindHeld_1, e_X10_mindHeld_3, e_X10_mindHeld_4, e_X10_mindHeld_7, e_X10_mindHeld_10, e_X10_mindHeld_11, e_X10_mindHeld_14, e_X10_mindHeld_15, e_X10_mindHeld_16, e_X10_mindHeld_18, e_X10_mindHeld_21, e_X10_mindHeld_22, e_X10_mindHeld_23, e_X10_mindHeld_26, e_X10_mindHeld_29, e_X10_mindHeld_30, hT, q_le, q_s, c, rg_33_56 hR, nI_cl, if_false, ff, Option.getD_some, Option.bind_some, Option.toList_some, Option.toList_none, List.cons_append, List.nil_append]
    rw [hh]
    by_cases h : I 65 y = 17
    · rw [if_pos h, if_pos h]
    · rw [if_neg h, if_neg h]
theorem m_mhe (hR : RG R a b) (hT : I 33 0 = nI T) (h16 : T ≤ 16) : Ev mX10_mindHeld 0 [.ref 33, .float 0] [] (71 + e, I, L, R) = some (some (.int (ff (fun i => I 65 i = 17) 0 T)), (71 + e, I, L, R)) := by
  have hh := m_mhe_l (e := e) (L := L) hR hT h16 T 0 (by omega)
  rw [nI_0] at hh
  simp (disch := first | exact rt_bo_0 | exact rt_bo_1 | exact ns_float | exact ns_int | exact ns_ref | assumption | omega | (simp (disch := omega) only [ob_33, rg_33_2 hR, ar_34, ln_34, rg_33_3 hR, ar_35, ln_35, rg_33_4 hR, ar_36, ln_36, rg_33_5 hR, ar_37, ln_37, rg_33_6 hR, ar_38, ln_38, rg_33_7 hR, ar_39, ln_39, rg_33_8 hR, ar_40, ln_40, rg_33_9 hR, ar_41, ln_41, rg_33_10 hR, ar_42, ln_42, rg_33_11 hR, ar_43, ln_43, rg_33_12 hR, ar_44, ln_44, rg_33_19 hR, ar_45, ln_45, rg_33_20 hR, ar_46, ln_46, rg_33_23 hR, ar_47, ln_47, rg_33_24 hR, ar_48, ln_48, rg_33_25 hR, ar_49, ln_49, rg_33_26 hR, ar_50, ln_50, rg_33_27 hR, ar_51, ln_51, rg_33_28 hR, ar_52, ln_52, rg_33_29 hR, ar_53, ln_53, rg_33_30 hR, ar_54, ln_54, rg_33_39 hR, ar_55, ln_55, rg_33_40 hR, ar_56, ln_56, rg_33_41 hR, ar_57, ln_57, rg_33_42 hR, ar_58, ln_58, rg_33_43 hR, ar_59, ln_59, rg_33_44 hR, ar_60, ln_60, rg_33_45 hR, ar_61, ln_61, rg_33_48 hR, ar_62, ln_62, rg_33_49 hR, ar_63, ln_63, rg_33_50 hR, ar_64, ln_64, rg_33_56 hR, ar_65, ln_65, rg_33_57 hR, ar_66, ln_66, rg_33_58 hR, ar_67, ln_67, rg_33_59 hR, ar_68, ln_68, rg_33_66 hR, ar_69, ln_69, rg_33_67 hR, ar_70, ln_70, rt_in_nI, Option.isSome_some, Option.getD_some, Bool.or_true, Bool.true_or]; done) | fail) only [e_X10_mindHeld_0, e_X10_mindHeld_1, e_X10_mindHeld_3, e_X10_mindHeld_4, e_X10_mindHeld_7, e_X10_mindHeld_10, e_X10_mindHeld_11, e_X10_mindHeld_14, e_X10_mindHeld_15, e_X10_mindHeld_16, e_X10_mindHeld_18, e_X10_mindHeld_21, e_X10_mindHeld_22, e_X10_mindHeld_23, e_X10_mindHeld_26, e_X10_mindHeld_29, e_X10_mindHeld_30, hh]
/-- what thinking leaves as it was -/
def Fk (I I2 : Nat → Nat → Int32) : Prop := (∀ c, c ≠ 33 → c < 65 ∨ 68 < c → I2 c = I c) ∧ ∀ k, k ≠ 60 → I2 33 k = I 33 k
theorem Fk_rf : Fk I I := ⟨fun _ _ _ => rfl, fun _ _ => rfl⟩
theorem Fk_tr {I3 : Nat → Nat → Int32} (h1 : Fk I I2) (h2 : Fk I2 I3) : Fk I I3 := ⟨fun c hc hd => by rw [h2.1 c hc hd, h1.1 c hc hd], fun k hk => by rw [h2.2 k hk, h1.2 k hk]⟩
theorem m_thinks (hR : RG R a b) (hT : I 33 0 = nI T) (h16 : T ≤ 16) (hO : RoomOK T (I 34) (I 65)) (h : PLm I l) (hl : l.length < 60) (ha : alw T (I 34) (I 65) x y j to_) :
    ∃ I2, Ev mX10_thinks 0 [.ref 33, .int x, .int y, .int w] [] (71 + e, I, L, R) = some (none, (71 + e, I2, L, R)) ∧ PLm I2 (l ++ [(x, y, w)]) ∧ I2 65 = updf (I 65) j to_ ∧ Fk I I2 := by
  obtain ⟨h1, h2⟩ := h
  obtain ⟨c1, c2, -⟩ := alw_cX ha h16 hO
  have hj := ha.1
  have hPL : ∀ {z : Int32}, PLm (rt_up (rt_up (rt_up (rt_up (rt_up I 66 l.length x) 67 l.length y) 68 l.length w) 33 60 (nI (l.length + 1))) 65 j z) (l ++ [(x, y, w)]) := by
    intro z
    refine ⟨by rw [rt_up_n1 (by omega), rt_up_eq, List.length_append, List.length_singleton], fun i q hq => ?_⟩
    have s66 : rt_up (rt_up (rt_up (rt_up (rt_up I 66 l.length x) 67 l.length y) 68 l.length w) 33 60 (nI (l.length + 1))) 65 j z 66 = updf (I 66) l.length x := by rw [rt_up_f (by omega), rt_up_f (by omega), rt_up_f (by omega), rt_up_f (by omega), updf_up]
    have s67 : rt_up (rt_up (rt_up (rt_up (rt_up I 66 l.length x) 67 l.length y) 68 l.length w) 33 60 (nI (l.length + 1))) 65 j z 67 = updf (I 67) l.length y := by rw [rt_up_f (by omega), rt_up_f (by omega), rt_up_f (by omega), updf_up, rt_up_f (by omega)]
    have s68 : rt_up (rt_up (rt_up (rt_up (rt_up I 66 l.length x) 67 l.length y) 68 l.length w) 33 60 (nI (l.length + 1))) 65 j z 68 = updf (I 68) l.length w := by rw [rt_up_f (by omega), rt_up_f (by omega), updf_up, rt_up_f (by omega), rt_up_f (by omega)]
    rw [s66, s67, s68]
    by_cases hi : i = l.length
    · subst hi
      rw [List.getElem?_append_right (Nat.le_refl _), Nat.sub_self] at hq
      cases hq
      exact ⟨updf_s, updf_s, updf_s⟩
    · rw [updf_n hi, updf_n hi, updf_n hi]
      by_cases hi2 : i < l.length
      · rw [List.getElem?_append_left hi2] at hq
        exact h2 i q hq
      · rw [List.getElem?_eq_none (by rw [List.length_append, List.length_singleton]; omega)] at hq
        cases hq
  have hFk : ∀ {z : Int32}, Fk I (rt_up (rt_up (rt_up (rt_up (rt_up I 66 l.length x) 67 l.length y) 68 l.length w) 33 60 (nI (l.length + 1))) 65 j z) := fun {z} => ⟨fun c h3 h4 => by rw [rt_up_f (by omega), rt_up_f h3, rt_up_f (by omega), rt_up_f (by omega), rt_up_f (by omega)], fun k hk => by rw [rt_up_n1 (by omega), rt_up_n2 hk, rt_up_n1 (by omega), rt_up_n1 (by omega), rt_up_n1 (by omega)]⟩
  have hmi : ∀ {z : Int32}, rt_up (rt_up (rt_up (rt_up (rt_up I 66 l.length x) 67 l.length y) 68 l.length w) 33 60 (nI (l.length + 1))) 65 j z 65 = updf (I 65) j z := fun {z} => by rw [updf_up, rt_up_f (by omega), rt_up_f (by omega), rt_up_f (by omega), rt_up_f (by omega)]
  refine ⟨_, ?_, hPL, hmi, hFk⟩
  by_cases h0 : x = 0
  · rw [if_pos h0] at c1 c2
    subst h0
    subst c1
    subst c2
    simp (disch := first | exact rt_bo_0 | exact rt_bo_1 | exact ns_float | exact ns_int | exact ns_ref | assumption | omega | (simp (disch := omega) only [ob_33, rg_33_2 hR, ar_34, ln_34, rg_33_3 hR, ar_35, ln_35, rg_33_4 hR, ar_36, ln_36, rg_33_5 hR, ar_37, ln_37, rg_33_6 hR, ar_38, ln_38, rg_33_7 hR, ar_39, ln_39, rg_33_8 hR, ar_40, ln_40, rg_33_9 hR, ar_41, ln_41, rg_33_10 hR, ar_42, ln_42, rg_33_11 hR, ar_43, ln_43, rg_33_12 hR, ar_44, ln_44, rg_33_19 hR, ar_45, ln_45, rg_33_20 hR, ar_46, ln_46, rg_33_23 hR, ar_47, ln_47, rg_33_24 hR, ar_48, ln_48, rg_33_25 hR, ar_49, ln_49, rg_33_26 hR, ar_50, ln_50, rg_33_27 hR, ar_51, ln_51, rg_33_28 hR, ar_52, ln_52, rg_33_29 hR, ar_53, ln_53, rg_33_30 hR, ar_54, ln_54, rg_33_39 hR, ar_55, ln_55, rg_33_40 hR, ar_56, ln_56, rg_33_41 hR, ar_57, ln_57, rg_33_42 hR, ar_58, ln_58, rg_33_43 hR, ar_59, ln_59, rg_33_44 hR, ar_60, ln_60, rg_33_45 hR, ar_61, ln_61, rg_33_48 hR, ar_62, ln_62, rg_33_49 hR, ar_63, ln_63, rg_33_50 hR, ar_64, ln_64, rg_33_56 hR, ar_65, ln_65, rg_33_57 hR, ar_66, ln_66, rg_33_58 hR, ar_67, ln_67, rg_33_59 hR, ar_68, ln_68, rg_33_66 hR, ar_69, ln_69, rg_33_67 hR, ar_70, ln_70, rt_in_nI, Option.isSome_some, Option.getD_some, Bool.or_true, Bool.true_or]; done) | fail) only [e_X10_thinks_0, e_X10_thinks_1, e_X10_thinks_4, e_X10_thinks_5, e_X10_thinks_8, e_X10_thinks_9, e_X10_thinks_10, e_X10_thinks_11, e_X10_thinks_14, e_X10_thinks_15, e_X10_thinks_18, e_X10_thinks_19, e_X10_thinks_20, e_X10_thinks_21, e_X10_thinks_24, e_X10_thinks_25, e_X10_thinks_28, e_X10_thinks_29, e_X10_thinks_30, e_X10_thinks_31, e_X10_thinks_32, e_X10_thinks_35, e_X10_thinks_36, e_X10_thinks_37, e_X10_thinks_40, e_X10_thinks_41, e_X10_thinks_44, e_X10_thinks_45, e_X10_thinks_48, e_X10_thinks_49, e_X10_thinks_51, e_X10_thinks_52, e_X10_thinks_55, e_X10_thinks_56, e_X10_thinks_59, e_X10_thinks_60, e_X10_thinks_63, e_X10_thinks_64, e_X10_thinks_65, e_X10_thinks_68, e_X10_thinks_70, e_X10_thinks_73, e_X10_thinks_74, e_X10_thinks_75, h1, rg_33_56 hR, rg_33_57 hR, rg_33_58 hR, rg_33_59 hR, nI_cl, rt_up_n1, q_s, if_true, Option.getD_some, Option.bind_some, Option.toList_some, Option.toList_none, List.cons_append, List.nil_append]
  · rw [if_neg h0] at c1 c2
    have h0' : (x = 0) = False := eq_false h0
    have hmh : Ev mX10_mindHeld 0 [.ref 33, .float 0] [] (71 + e, rt_up (rt_up (rt_up (rt_up I 66 l.length x) 67 l.length y) 68 l.length w) 33 60 (nI (l.length + 1)), L, R) = some (some (.int (nI j)), (71 + e, rt_up (rt_up (rt_up (rt_up I 66 l.length x) 67 l.length y) 68 l.length w) 33 60 (nI (l.length + 1)), L, R)) := by
      have := m_mhe (e := e) (I := rt_up (rt_up (rt_up (rt_up I 66 l.length x) 67 l.length y) 68 l.length w) 33 60 (nI (l.length + 1))) (L := L) hR (by rw [rt_up_n2 (by omega), rt_up_n1 (by omega), rt_up_n1 (by omega), rt_up_n1 (by omega)]; exact hT) h16
      rw [rt_up_f (show 65 ≠ 33 by omega), rt_up_f (show 65 ≠ 68 by omega), rt_up_f (show 65 ≠ 67 by omega), rt_up_f (show 65 ≠ 66 by omega), c1] at this
      exact this
    simp (disch := first | exact rt_bo_0 | exact rt_bo_1 | exact ns_float | exact ns_int | exact ns_ref | assumption | omega | (simp (disch := omega) only [ob_33, rg_33_2 hR, ar_34, ln_34, rg_33_3 hR, ar_35, ln_35, rg_33_4 hR, ar_36, ln_36, rg_33_5 hR, ar_37, ln_37, rg_33_6 hR, ar_38, ln_38, rg_33_7 hR, ar_39, ln_39, rg_33_8 hR, ar_40, ln_40, rg_33_9 hR, ar_41, ln_41, rg_33_10 hR, ar_42, ln_42, rg_33_11 hR, ar_43, ln_43, rg_33_12 hR, ar_44, ln_44, rg_33_19 hR, ar_45, ln_45, rg_33_20 hR, ar_46, ln_46, rg_33_23 hR, ar_47, ln_47, rg_33_24 hR, ar_48, ln_48, rg_33_25 hR, ar_49, ln_49, rg_33_26 hR, ar_50, ln_50, rg_33_27 hR, ar_51, ln_51, rg_33_28 hR, ar_52, ln_52, rg_33_29 hR, ar_53, ln_53, rg_33_30 hR, ar_54, ln_54, rg_33_39 hR, ar_55, ln_55, rg_33_40 hR, ar_56, ln_56, rg_33_41 hR, ar_57, ln_57, rg_33_42 hR, ar_58, ln_58, rg_33_43 hR, ar_59, ln_59, rg_33_44 hR, ar_60, ln_60, rg_33_45 hR, ar_61, ln_61, rg_33_48 hR, ar_62, ln_62, rg_33_49 hR, ar_63, ln_63, rg_33_50 hR, ar_64, ln_64, rg_33_56 hR, ar_65, ln_65, rg_33_57 hR, ar_66, ln_66, rg_33_58 hR, ar_67, ln_67, rg_33_59 hR, ar_68, ln_68, rg_33_66 hR, ar_69, ln_69, rg_33_67 hR, ar_70, ln_70, rt_in_nI, Option.isSome_some, Option.getD_some, Bool.or_true, Bool.true_or]; done) | fail) only [e_X10_thinks_0, e_X10_thinks_1, e_X10_thinks_4, e_X10_thinks_5, e_X10_thinks_8, e_X10_thinks_9, e_X10_thinks_10, e_X10_thinks_11, e_X10_thinks_14, e_X10_thinks_15, e_X10_thinks_18, e_X10_thinks_19, e_X10_thinks_20, e_X10_thinks_21, e_X10_thinks_24, e_X10_thinks_25, e_X10_thinks_28, e_X10_thinks_29, e_X10_thinks_30, e_X10_thinks_31, e_X10_thinks_32, e_X10_thinks_35, e_X10_thinks_36, e_X10_thinks_37, e_X10_thinks_40, e_X10_thinks_41, e_X10_thinks_44, e_X10_thinks_45, e_X10_thinks_48, e_X10_thinks_49, e_X10_thinks_51, e_X10_thinks_52, e_X10_thinks_55, e_X10_thinks_56, e_X10_thinks_59, e_X10_thinks_60, e_X10_thinks_63, e_X10_thinks_64, e_X10_thinks_65, e_X10_thinks_68, e_X10_thinks_70, e_X10_thinks_73, e_X10_thinks_74, e_X10_thinks_75, h1, h0', rg_33_56 hR, rg_33_57 hR, rg_33_58 hR, rg_33_59 hR, nI_cl, rt_up_n1, q_s, hmh, if_false, Option.getD_some, Option.bind_some, Option.toList_some, Option.toList_none, List.cons_append, List.nil_append]
    rw [c2]
    by_cases hx2 : x = 2
    · simp only [if_pos hx2]
    · simp only [if_neg hx2]
/-- up to what stands highest -/
theorem m_clr_u (hR : RG R a b) (hT : I 33 0 = nI T) (h16 : T ≤ 16) (hO : RoomOK T (I 34) (I 65)) (hb0 : ∀ d, d < T → I 65 d ≠ 16 → I 34 d ≠ 2) (htop : otp T (I 34) (I 65) c = -1) : ∀ (n : Nat) (acc : List Nat) (cur : Nat), acc.length = n → cur < T → I 34 cur ≠ 2 → dwl T (I 65) cur c acc → Ev mX10_clears 15 [.ref 33, .int x, .int (nI cur)] [] (71 + e, I, L, R) = Ev mX10_clears 33 [.ref 33, .int x, .int (nI c)] [] (71 + e, I, L, R) := by
  intro n
  induction n with
  | zero =>
    intro acc cur hl hc hs hd
    have : acc = [] := List.length_eq_zero_iff.mp hl
    subst this
    cases hd
    have hm := m_mab (e := e) (L := L) hR hT h16 hO hc
    rw [htop] at hm
    rw [e_X10_clears_15]
    simp (disch := first | exact rt_bo_0 | exact rt_bo_1 | exact ns_float | exact ns_int | exact ns_ref | assumption | omega | (simp (disch := omega) only [ob_33, rg_33_2 hR, ar_34, ln_34, rg_33_3 hR, ar_35, ln_35, rg_33_4 hR, ar_36, ln_36, rg_33_5 hR, ar_37, ln_37, rg_33_6 hR, ar_38, ln_38, rg_33_7 hR, ar_39, ln_39, rg_33_8 hR, ar_40, ln_40, rg_33_9 hR, ar_41, ln_41, rg_33_10 hR, ar_42, ln_42, rg_33_11 hR, ar_43, ln_43, rg_33_12 hR, ar_44, ln_44, rg_33_19 hR, ar_45, ln_45, rg_33_20 hR, ar_46, ln_46, rg_33_23 hR, ar_47, ln_47, rg_33_24 hR, ar_48, ln_48, rg_33_25 hR, ar_49, ln_49, rg_33_26 hR, ar_50, ln_50, rg_33_27 hR, ar_51, ln_51, rg_33_28 hR, ar_52, ln_52, rg_33_29 hR, ar_53, ln_53, rg_33_30 hR, ar_54, ln_54, rg_33_39 hR, ar_55, ln_55, rg_33_40 hR, ar_56, ln_56, rg_33_41 hR, ar_57, ln_57, rg_33_42 hR, ar_58, ln_58, rg_33_43 hR, ar_59, ln_59, rg_33_44 hR, ar_60, ln_60, rg_33_45 hR, ar_61, ln_61, rg_33_48 hR, ar_62, ln_62, rg_33_49 hR, ar_63, ln_63, rg_33_50 hR, ar_64, ln_64, rg_33_56 hR, ar_65, ln_65, rg_33_57 hR, ar_66, ln_66, rg_33_58 hR, ar_67, ln_67, rg_33_59 hR, ar_68, ln_68, rg_33_66 hR, ar_69, ln_69, rg_33_67 hR, ar_70, ln_70, rt_in_nI, Option.isSome_some, Option.getD_some, Bool.or_true, Bool.true_or]; done) | fail) only [e_X10_clears_1, e_X10_clears_2, e_X10_clears_5, e_X10_clears_6, e_X10_clears_9, e_X10_clears_10, e_X10_clears_11, e_X10_clears_14, e_X10_clears_16, e_X10_clears_17, e_X10_clears_20, e_X10_clears_21, e_X10_clears_24, e_X10_clears_25, e_X10_clears_26, e_X10_clears_29, e_X10_clears_30, e_X10_clears_34, e_X10_clears_35, e_X10_clears_36, e_X10_clears_37, e_X10_clears_40, e_X10_clears_41, e_X10_clears_42, e_X10_clears_43, e_X10_clears_44, e_X10_clears_47, e_X10_clears_50, hm, if_true, Option.getD_some, Option.bind_some, Option.toList_some, Option.toList_none, List.cons_append, List.nil_append]
  | succ n ih =>
    intro acc cur hl hc hs hd
    obtain ⟨acc', d, rfl, h1, h2, h3⟩ := dwl_snoc hd (by intro h; rw [h] at hl; cases hl)
    have hm := m_mab (e := e) (L := L) hR hT h16 hO hc
    rw [(otp_on hO h16 h1 hc hs h2).1] at hm
    have hds : I 34 d ≠ 2 := hb0 d h1 (fun h => by rw [h] at h2; exact n16 (by omega) h2.symm)
    rw [e_X10_clears_15]
    simp (disch := first | exact rt_bo_0 | exact rt_bo_1 | exact ns_float | exact ns_int | exact ns_ref | assumption | omega | (simp (disch := omega) only [ob_33, rg_33_2 hR, ar_34, ln_34, rg_33_3 hR, ar_35, ln_35, rg_33_4 hR, ar_36, ln_36, rg_33_5 hR, ar_37, ln_37, rg_33_6 hR, ar_38, ln_38, rg_33_7 hR, ar_39, ln_39, rg_33_8 hR, ar_40, ln_40, rg_33_9 hR, ar_41, ln_41, rg_33_10 hR, ar_42, ln_42, rg_33_11 hR, ar_43, ln_43, rg_33_12 hR, ar_44, ln_44, rg_33_19 hR, ar_45, ln_45, rg_33_20 hR, ar_46, ln_46, rg_33_23 hR, ar_47, ln_47, rg_33_24 hR, ar_48, ln_48, rg_33_25 hR, ar_49, ln_49, rg_33_26 hR, ar_50, ln_50, rg_33_27 hR, ar_51, ln_51, rg_33_28 hR, ar_52, ln_52, rg_33_29 hR, ar_53, ln_53, rg_33_30 hR, ar_54, ln_54, rg_33_39 hR, ar_55, ln_55, rg_33_40 hR, ar_56, ln_56, rg_33_41 hR, ar_57, ln_57, rg_33_42 hR, ar_58, ln_58, rg_33_43 hR, ar_59, ln_59, rg_33_44 hR, ar_60, ln_60, rg_33_45 hR, ar_61, ln_61, rg_33_48 hR, ar_62, ln_62, rg_33_49 hR, ar_63, ln_63, rg_33_50 hR, ar_64, ln_64, rg_33_56 hR, ar_65, ln_65, rg_33_57 hR, ar_66, ln_66, rg_33_58 hR, ar_67, ln_67, rg_33_59 hR, ar_68, ln_68, rg_33_66 hR, ar_69, ln_69, rg_33_67 hR, ar_70, ln_70, rt_in_nI, Option.isSome_some, Option.getD_some, Bool.or_true, Bool.true_or]; done) | fail) only [e_X10_clears_1, e_X10_clears_2, e_X10_clears_5, e_X10_clears_6, e_X10_clears_9, e_X10_clears_10, e_X10_clears_11, e_X10_clears_14, e_X10_clears_16, e_X10_clears_17, e_X10_clears_20, e_X10_clears_21, e_X10_clears_24, e_X10_clears_25, e_X10_clears_26, e_X10_clears_29, e_X10_clears_30, e_X10_clears_34, e_X10_clears_35, e_X10_clears_36, e_X10_clears_37, e_X10_clears_40, e_X10_clears_41, e_X10_clears_42, e_X10_clears_43, e_X10_clears_44, e_X10_clears_47, e_X10_clears_50, hm, q_e1, if_false, Option.getD_some, Option.bind_some, Option.toList_some, Option.toList_none, List.cons_append, List.nil_append]
    exact ih acc' d (by rw [List.length_append, List.length_singleton] at hl; omega) h1 hds h3
theorem m_clear (hR : RG R a b) (h16 : T ≤ 16) (hb : base < T) {v : Value} : ∀ (acc : List Nat) (c : Nat) (l : List AcT) (I : Nat → Nat → Int32) (v : Value), rt_ns v = true → I 33 0 = nI T → RoomOK T (I 34) (I 65) → I 34 base ≠ 2 → dwl T (I 65) base c acc → otp T (I 34) (I 65) c = -1 → (acc ≠ [] → ∀ i, i < T → I 65 i ≠ 17) → PLm I l → l.length + 2 * acc.length ≤ 58 →
    ∃ I2, Ev mX10_clears 0 [.ref 33, .int (nI base), v] [] (71 + e, I, L, R) = some (none, (71 + e, I2, L, R)) ∧ PLm I2 (l ++ acl (nI base) acc) ∧ LegT T (I 34) (I 65) (acl (nI base) acc) (I2 65) ∧ (∀ i, I2 65 i = if i ∈ acc then 16 else I 65 i) ∧ Fk I I2 := by
  intro acc
  induction acc with
  | nil =>
    intro c l I v hv hT hO hs hd ho hh hP hl
    cases hd
    have hm := m_mab (e := e) (L := L) hR hT h16 hO hb
    rw [ho] at hm
    refine ⟨I, ?_, by rw [acl, List.append_nil]; exact hP, rfl, fun i => by simp, Fk_rf⟩
    rw [e_X10_clears_0]
    simp (disch := first | exact rt_bo_0 | exact rt_bo_1 | exact ns_float | exact ns_int | exact ns_ref | assumption | omega | (simp (disch := omega) only [ob_33, rg_33_2 hR, ar_34, ln_34, rg_33_3 hR, ar_35, ln_35, rg_33_4 hR, ar_36, ln_36, rg_33_5 hR, ar_37, ln_37, rg_33_6 hR, ar_38, ln_38, rg_33_7 hR, ar_39, ln_39, rg_33_8 hR, ar_40, ln_40, rg_33_9 hR, ar_41, ln_41, rg_33_10 hR, ar_42, ln_42, rg_33_11 hR, ar_43, ln_43, rg_33_12 hR, ar_44, ln_44, rg_33_19 hR, ar_45, ln_45, rg_33_20 hR, ar_46, ln_46, rg_33_23 hR, ar_47, ln_47, rg_33_24 hR, ar_48, ln_48, rg_33_25 hR, ar_49, ln_49, rg_33_26 hR, ar_50, ln_50, rg_33_27 hR, ar_51, ln_51, rg_33_28 hR, ar_52, ln_52, rg_33_29 hR, ar_53, ln_53, rg_33_30 hR, ar_54, ln_54, rg_33_39 hR, ar_55, ln_55, rg_33_40 hR, ar_56, ln_56, rg_33_41 hR, ar_57, ln_57, rg_33_42 hR, ar_58, ln_58, rg_33_43 hR, ar_59, ln_59, rg_33_44 hR, ar_60, ln_60, rg_33_45 hR, ar_61, ln_61, rg_33_48 hR, ar_62, ln_62, rg_33_49 hR, ar_63, ln_63, rg_33_50 hR, ar_64, ln_64, rg_33_56 hR, ar_65, ln_65, rg_33_57 hR, ar_66, ln_66, rg_33_58 hR, ar_67, ln_67, rg_33_59 hR, ar_68, ln_68, rg_33_66 hR, ar_69, ln_69, rg_33_67 hR, ar_70, ln_70, rt_in_nI, Option.isSome_some, Option.getD_some, Bool.or_true, Bool.true_or]; done) | fail) only [e_X10_clears_1, e_X10_clears_2, e_X10_clears_5, e_X10_clears_6, e_X10_clears_9, e_X10_clears_10, e_X10_clears_11, e_X10_clears_14, e_X10_clears_16, e_X10_clears_17, e_X10_clears_20, e_X10_clears_21, e_X10_clears_24, e_X10_clears_25, e_X10_clears_26, e_X10_clears_29, e_X10_clears_30, e_X10_clears_34, e_X10_clears_35, e_X10_clears_36, e_X10_clears_37, e_X10_clears_40, e_X10_clears_41, e_X10_clears_42, e_X10_clears_43, e_X10_clears_44, e_X10_clears_47, e_X10_clears_50, hm, if_true, Option.getD_some, Option.bind_some, Option.toList_some, Option.toList_none, List.cons_append, List.nil_append]
  | cons d acc ih =>
    intro c l I v hv hT hO hs hd ho hh hP hl
    have hb0 : ∀ d, d < T → I 65 d ≠ 16 → I 34 d ≠ 2 := fun d hd h hs => h (hO.2.2.2.2.1 d hd hs)
    obtain ⟨ord, hor, -, hup⟩ := hO.2.2.2.2.2
    have hord := dwl_ord hup hd
    obtain ⟨acc', z, e1, z1, z2, z3⟩ := dwl_snoc hd (by simp)
    have hd0 := hd
    obtain ⟨rfl, c1, p, hp, c2, c3⟩ := hd
    have hhand := hh (by simp)
    rw [List.length_cons] at hl
    have hzs : I 34 z ≠ 2 := hb0 z z1 (fun h => by rw [h] at z2; exact n16 (by omega) z2.symm)
    have hcs : I 34 c ≠ 2 := hb0 c c1 (fun h => by rw [h] at c2; exact n16 (by omega) c2.symm)
    have hw := m_clr_u (e := e) (L := L) (x := nI base) hR hT h16 hO hb0 ho acc'.length acc' z rfl z1 hzs z3
    have hm := m_mab (e := e) (L := L) hR hT h16 hO hb
    rw [(otp_on hO h16 z1 hb hs z2).1] at hm
    have hnc := otp_no' hO h16 c1 hcs ho
    have al1 : alw T (I 34) (I 65) 0 (nI c) c 17 := ⟨c1, Or.inl ⟨rfl, rfl, rfl, hhand, hcs, hnc⟩⟩
    obtain ⟨IA, hA1, hA2, hA3, hA4⟩ := m_thinks (e := e) (L := L) (w := nI base) hR hT h16 hO hP (by omega) al1
    have f34 : IA 34 = I 34 := hA4.1 34 (by omega) (by omega)
    have hOA : RoomOK T (IA 34) (IA 65) := by rw [f34, hA3]; exact room_mv al1 h16 hO
    have al2 : alw T (IA 34) (IA 65) 2 (-1) c 16 := ⟨c1, Or.inr ⟨by rw [hA3, updf_s], Or.inr (Or.inl ⟨rfl, rfl, rfl⟩)⟩⟩
    obtain ⟨IB, hB1, hB2, hB3, hB4⟩ := m_thinks (e := e) (L := L) (w := nI base) hR (by rw [hA4.2 0 (by omega)]; exact hT) h16 hOA hA2 (by rw [List.length_append, List.length_singleton]; omega) al2
    have g34 : IB 34 = I 34 := by rw [hB4.1 34 (by omega) (by omega), f34]
    have hOB : RoomOK T (IB 34) (IB 65) := by rw [hB4.1 34 (by omega) (by omega), hB3]; exact room_mv al2 h16 hOA
    have hval : ∀ i, IB 65 i = if i = c then 16 else I 65 i := by
      intro i
      rw [hB3, hA3]
      by_cases hi : i = c
      · subst hi; rw [updf_s, if_pos rfl]
      · rw [updf_n hi, updf_n hi, if_neg hi]
    have hcacc : ∀ d, d ∈ acc → d ≠ c := by
      intro d hd e
      subst e
      have h1 := hup d p c1 hp c2
      have h2 := ((dwl_ord hup c3).2 d hd).1
      omega
    have hdB : dwl T (IB 65) base p acc := dwl_congr c3 (fun d hd => by rw [hval, if_neg (hcacc d hd)])
    have hps : I 34 p = 0 := by
      have hp2 : I 34 p ≠ 2 := by
        cases acc with
        | nil => cases c3; exact hs
        | cons y acc2 =>
          obtain ⟨rfl, y1, q, hq, y2, -⟩ := c3
          exact hb0 p y1 (fun h => by rw [h] at y2; exact n16 (by omega) y2.symm)
      exact (otp_on hO h16 c1 hp hp2 c2).2
    have hoB : otp T (IB 34) (IB 65) p = -1 := otp_no (fun i hi h => by
      rw [hval] at h
      by_cases hic : i = c
      · rw [if_pos hic] at h; exact n16 (by omega) h.symm
      · rw [if_neg hic] at h
        exact hic (hO.2.2.1 i c p hi c1 hp hps h c2))
    obtain ⟨I2, hE, k1, k2, k3, k4⟩ := ih p (l ++ [(0, nI c, nI base)] ++ [(2, -1, nI base)]) IB (.int (nI c)) rfl (by rw [hB4.2 0 (by omega), hA4.2 0 (by omega)]; exact hT) hOB (by rw [g34]; exact hs) hdB hoB (fun _ i hi h => by
      rw [hval] at h
      by_cases hic : i = c
      · rw [if_pos hic] at h; exact absurd h (by decide)
      · rw [if_neg hic] at h; exact hhand i hi h) hB2 (by rw [List.length_append, List.length_append, List.length_singleton, List.length_singleton]; omega)
    refine ⟨I2, ?_, ?_, ?_, fun i => ?_, Fk_tr (Fk_tr hA4 hB4) k4⟩
    · rw [e_X10_clears_0]
      simp (disch := first | exact rt_bo_0 | exact rt_bo_1 | exact ns_float | exact ns_int | exact ns_ref | assumption | omega | (simp (disch := omega) only [ob_33, rg_33_2 hR, ar_34, ln_34, rg_33_3 hR, ar_35, ln_35, rg_33_4 hR, ar_36, ln_36, rg_33_5 hR, ar_37, ln_37, rg_33_6 hR, ar_38, ln_38, rg_33_7 hR, ar_39, ln_39, rg_33_8 hR, ar_40, ln_40, rg_33_9 hR, ar_41, ln_41, rg_33_10 hR, ar_42, ln_42, rg_33_11 hR, ar_43, ln_43, rg_33_12 hR, ar_44, ln_44, rg_33_19 hR, ar_45, ln_45, rg_33_20 hR, ar_46, ln_46, rg_33_23 hR, ar_47, ln_47, rg_33_24 hR, ar_48, ln_48, rg_33_25 hR, ar_49, ln_49, rg_33_26 hR, ar_50, ln_50, rg_33_27 hR, ar_51, ln_51, rg_33_28 hR, ar_52, ln_52, rg_33_29 hR, ar_53, ln_53, rg_33_30 hR, ar_54, ln_54, rg_33_39 hR, ar_55, ln_55, rg_33_40 hR, ar_56, ln_56, rg_33_41 hR, ar_57, ln_57, rg_33_42 hR, ar_58, ln_58, rg_33_43 hR, ar_59, ln_59, rg_33_44 hR, ar_60, ln_60, rg_33_45 hR, ar_61, ln_61, rg_33_48 hR, ar_62, ln_62, rg_33_49 hR, ar_63, ln_63, rg_33_50 hR, ar_64, ln_64, rg_33_56 hR, ar_65, ln_65, rg_33_57 hR, ar_66, ln_66, rg_33_58 hR, ar_67, ln_67, rg_33_59 hR, ar_68, ln_68, rg_33_66 hR, ar_69, ln_69, rg_33_67 hR, ar_70, ln_70, rt_in_nI, Option.isSome_some, Option.getD_some, Bool.or_true, Bool.true_or]; done) | fail) only [e_X10_clears_1, e_X10_clears_2, e_X10_clears_5, e_X10_clears_6, e_X10_clears_9, e_X10_clears_10, e_X10_clears_11, e_X10_clears_14, e_X10_clears_16, e_X10_clears_17, e_X10_clears_20, e_X10_clears_21, e_X10_clears_24, e_X10_clears_25, e_X10_clears_26, e_X10_clears_29, e_X10_clears_30, e_X10_clears_34, e_X10_clears_35, e_X10_clears_36, e_X10_clears_37, e_X10_clears_40, e_X10_clears_41, e_X10_clears_42, e_X10_clears_43, e_X10_clears_44, e_X10_clears_47, e_X10_clears_50, hm, q_e1, if_false, Option.getD_some, Option.bind_some, Option.toList_some, Option.toList_none, List.cons_append, List.nil_append]
      rw [hw, e_X10_clears_33]
      simp (disch := first | exact rt_bo_0 | exact rt_bo_1 | exact ns_float | exact ns_int | exact ns_ref | assumption | omega | (simp (disch := omega) only [ob_33, rg_33_2 hR, ar_34, ln_34, rg_33_3 hR, ar_35, ln_35, rg_33_4 hR, ar_36, ln_36, rg_33_5 hR, ar_37, ln_37, rg_33_6 hR, ar_38, ln_38, rg_33_7 hR, ar_39, ln_39, rg_33_8 hR, ar_40, ln_40, rg_33_9 hR, ar_41, ln_41, rg_33_10 hR, ar_42, ln_42, rg_33_11 hR, ar_43, ln_43, rg_33_12 hR, ar_44, ln_44, rg_33_19 hR, ar_45, ln_45, rg_33_20 hR, ar_46, ln_46, rg_33_23 hR, ar_47, ln_47, rg_33_24 hR, ar_48, ln_48, rg_33_25 hR, ar_49, ln_49, rg_33_26 hR, ar_50, ln_50, rg_33_27 hR, ar_51, ln_51, rg_33_28 hR, ar_52, ln_52, rg_33_29 hR, ar_53, ln_53, rg_33_30 hR, ar_54, ln_54, rg_33_39 hR, ar_55, ln_55, rg_33_40 hR, ar_56, ln_56, rg_33_41 hR, ar_57, ln_57, rg_33_42 hR, ar_58, ln_58, rg_33_43 hR, ar_59, ln_59, rg_33_44 hR, ar_60, ln_60, rg_33_45 hR, ar_61, ln_61, rg_33_48 hR, ar_62, ln_62, rg_33_49 hR, ar_63, ln_63, rg_33_50 hR, ar_64, ln_64, rg_33_56 hR, ar_65, ln_65, rg_33_57 hR, ar_66, ln_66, rg_33_58 hR, ar_67, ln_67, rg_33_59 hR, ar_68, ln_68, rg_33_66 hR, ar_69, ln_69, rg_33_67 hR, ar_70, ln_70, rt_in_nI, Option.isSome_some, Option.getD_some, Bool.or_true, Bool.true_or]; done) | fail) only [e_X10_clears_1, e_X10_clears_2, e_X10_clears_5, e_X10_clears_6, e_X10_clears_9, e_X10_clears_10, e_X10_clears_11, e_X10_clears_14, e_X10_clears_16, e_X10_clears_17, e_X10_clears_20, e_X10_clears_21, e_X10_clears_24, e_X10_clears_25, e_X10_clears_26, e_X10_clears_29, e_X10_clears_30, e_X10_clears_34, e_X10_clears_35, e_X10_clears_36, e_X10_clears_37, e_X10_clears_40, e_X10_clears_41, e_X10_clears_42, e_X10_clears_43, e_X10_clears_44, e_X10_clears_47, e_X10_clears_50, hA1, hB1, Option.getD_some, Option.bind_some, Option.toList_some, Option.toList_none, List.cons_append, List.nil_append]
      exact hE
    · rw [List.append_assoc, List.append_assoc] at k1
      exact k1
    · rw [g34, hB3, hA3] at k2
      refine ⟨c, 17, al1, c, 16, ?_, k2⟩
      rw [← f34, ← hA3]
      exact al2
    · rw [k3, hval]
      by_cases h1 : i ∈ acc
      · rw [if_pos h1, if_pos (List.mem_cons_of_mem _ h1)]
      · rw [if_neg h1]
        by_cases h2 : i = c
        · rw [if_pos h2, if_pos (by rw [h2]; exact List.mem_cons_self ..)]
        · rw [if_neg h2, if_neg (fun h => by rcases List.mem_cons.mp h with h | h; exact h2 h; exact h1 h)]
end P37

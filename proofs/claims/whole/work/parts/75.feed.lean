section P13
variable {e : Nat} {I : Nat → Nat → Int32} {L : Nat → Nat → Int64} {R : Nat → Nat → Option Nat} {a b n : Nat} {v : Int32}
theorem q_f24 : ((24 : Int32) < 0) = False := by decide
theorem q_f16 : ((16 : Int32) < 0) = False := by decide
theorem q_f8 : ((8 : Int32) < 0) = False := by decide
theorem q_f0 : ((0 : Int32) < 0) = False := by decide
theorem q_fm8 : ((-8 : Int32) < 0) = True := by decide
theorem q_g24 : (24 : Int32) + -8 = 16 := by decide
theorem q_g16 : (16 : Int32) + -8 = 8 := by decide
theorem q_g8 : (8 : Int32) + -8 = 0 := by decide
theorem q_g0 : (0 : Int32) + -8 = -8 := by decide
theorem x_room (hR : RG R a b) (hT : I 7 1 = nI n) (hn : n ≤ 200) {k : Nat} (hk : k ≤ 200) : Ev mX7_hasRoomFor 0 [.ref 7, .int (nI k)] [] (71 + e, I, L, R) = some (some (.int (if 200 < n + k then 0 else 1)), (71 + e, I, L, R)) := by
  simp (disch := first | exact rt_bo_0 | exact rt_bo_1 | exact ns_float | exact ns_int | exact ns_ref | omega | (simp (disch := omega) only [ob_0, rg_0_0 hR, rg_0_1 hR, rg_0_2 hR, rg_0_3 hR, rg_0_4 hR, rg_0_5 hR, rg_0_6 hR, ob_7, rg_7_0 hR, ar_8, ln_8, rt_in_nI, Option.isSome_some, Option.getD_some]; done) | fail) only [e_X7_hasRoomFor_0, e_X7_hasRoomFor_1, e_X7_hasRoomFor_4, e_X7_hasRoomFor_5, e_X7_hasRoomFor_6, e_X7_hasRoomFor_9, e_X7_hasRoomFor_12, e_X7_hasRoomFor_13, e_X7_hasRoomFor_16, e_X7_hasRoomFor_17, hT, nI_add, q_200, Option.getD_some, Option.bind_some, Option.toList_some, Option.toList_none, List.cons_append, List.nil_append, q_10, q_m10, q_00, q_lt, q_le, q_l0, q_0l, q_e1, q_eq, nI_cl, q_s, if_false, if_true, q_sv]
/-- four bytes more -/
def fdX (I : Nat → Nat → Int32) (n : Nat) (v : Int32) : Nat → Nat → Int32 :=
  rt_up (rt_up (rt_up (rt_up (rt_up (rt_up (rt_up (rt_up I 8 n (bX v 24)) 7 1 (nI (n + 1))) 8 (n + 1) (bX v 16)) 7 1 (nI (n + 1 + 1))) 8 (n + 1 + 1) (bX v 8)) 7 1 (nI (n + 1 + 1 + 1))) 8 (n + 1 + 1 + 1) (bX v 0)) 7 1 (nI (n + 1 + 1 + 1 + 1))
theorem x_addNumber (hR : RG R a b) (hT : I 7 1 = nI n) (hn : n + 4 ≤ 200) : Ev mX7_addNumber 0 [.ref 7, .int v, .float 0] [] (71 + e, I, L, R) = some (none, (71 + e, fdX I n v, L, R)) := by
  have h4 := x_room (L := L) (e := e) hR hT (by omega) (k := 4) (by omega)
  have h4' : (nI 4) = 4 := rfl
  rw [h4', if_neg (by omega)] at h4
  simp (disch := first | exact rt_bo_0 | exact rt_bo_1 | exact ns_float | exact ns_int | exact ns_ref | omega | (simp (disch := omega) only [ob_0, rg_0_0 hR, rg_0_1 hR, rg_0_2 hR, rg_0_3 hR, rg_0_4 hR, rg_0_5 hR, rg_0_6 hR, ob_7, rg_7_0 hR, ar_8, ln_8, rt_in_nI, Option.isSome_some, Option.getD_some]; done) | fail) only [e_X7_addNumber_0, e_X7_addNumber_1, e_X7_addNumber_2, e_X7_addNumber_5, e_X7_addNumber_8, e_X7_addNumber_10, e_X7_addNumber_11, e_X7_addNumber_12, e_X7_addNumber_15, e_X7_addNumber_16, e_X7_addNumber_19, e_X7_addNumber_20, e_X7_addNumber_23, e_X7_addNumber_24, e_X7_addNumber_25, e_X7_addNumber_26, e_X7_addNumber_29, e_X7_addNumber_30, e_X7_addNumber_31, e_X7_addNumber_32, e_X7_addNumber_33, e_X7_addNumber_36, e_X7_addNumber_37, e_X7_addNumber_38, e_X7_addNumber_41, e_X7_addNumber_44, e_X7_addNumber_47, h4, hT, rg_7_0 hR, q_f24, q_f16, q_f8, q_f0, q_fm8, q_g24, q_g16, q_g8, q_g0, Option.getD_some, Option.bind_some, Option.toList_some, Option.toList_none, List.cons_append, List.nil_append, q_10, q_m10, q_00, q_lt, q_le, q_l0, q_0l, q_e1, q_eq, nI_cl, q_s, if_false, if_true, rt_up_eq, rt_up_n1]
  rfl
theorem x_feed_no (hR : RG R a b) (hT : I 7 1 = nI n) (hn : n ≤ 200) (h : 180 < n) {v1 v2 v3 v4 v5 : Int32} : Ev mX9_feed 0 [.ref 0, .int v1, .int v2, .int v3, .int v4, .int v5] [] (71 + e, I, L, R) = some (some (.int (-1)), (71 + e, I, L, R)) := by
  have h4 := x_room (L := L) (e := e) hR hT (by omega) (k := 20) (by omega)
  have h4' : (nI 20) = 20 := rfl
  rw [h4', if_pos (by omega)] at h4
  simp (disch := first | exact rt_bo_0 | exact rt_bo_1 | exact ns_float | exact ns_int | exact ns_ref | omega | (simp (disch := omega) only [ob_0, rg_0_0 hR, rg_0_1 hR, rg_0_2 hR, rg_0_3 hR, rg_0_4 hR, rg_0_5 hR, rg_0_6 hR, ob_7, rg_7_0 hR, ar_8, ln_8, rt_in_nI, Option.isSome_some, Option.getD_some]; done) | fail) only [e_X9_feed_0, e_X9_feed_1, e_X9_feed_4, e_X9_feed_6, e_X9_feed_9, e_X9_feed_12, e_X9_feed_13, e_X9_feed_14, e_X9_feed_15, e_X9_feed_18, e_X9_feed_19, e_X9_feed_22, e_X9_feed_23, e_X9_feed_26, e_X9_feed_27, e_X9_feed_30, e_X9_feed_31, e_X9_feed_34, e_X9_feed_35, e_X9_feed_38, e_X9_feed_39, e_X9_feed_42, e_X9_feed_44, e_X9_feed_47, e_X9_feed_48, e_X9_feed_51, e_X9_feed_53, e_X9_feed_56, e_X9_feed_57, e_X9_feed_60, e_X9_feed_63, rg_0_1 hR, h4, Option.getD_some, Option.bind_some, Option.toList_some, Option.toList_none, List.cons_append, List.nil_append, q_10, q_m10, q_00, q_lt, q_le, q_l0, q_0l, q_e1, q_eq, nI_cl, q_s, if_false, if_true]
theorem fdX_n : fdX I n v 7 1 = nI (n + 4) := rt_up_eq
theorem x_feed_ok (hR : RG R a b) (hT : I 7 1 = nI n) (h : n ≤ 180) {v1 v2 v3 v4 v5 : Int32} : Ev mX9_feed 0 [.ref 0, .int v1, .int v2, .int v3, .int v4, .int v5] [] (71 + e, I, L, R) = some (some (.int (nI (n + 20))), (71 + e, fdX (fdX (fdX (fdX (fdX I n v1) (n + 4) v2) (n + 8) v3) (n + 12) v4) (n + 16) v5, L, R)) := by
  have h4 := x_room (L := L) (e := e) hR hT (by omega) (k := 20) (by omega)
  have h4' : (nI 20) = 20 := rfl
  rw [h4', if_neg (by omega)] at h4
  have a1 := x_addNumber (L := L) (e := e) (v := v1) hR hT (by omega)
  have a2 := x_addNumber (L := L) (e := e) (v := v2) hR (fdX_n (I := I) (n := n) (v := v1)) (by omega)
  have a3 := x_addNumber (L := L) (e := e) (v := v3) hR (fdX_n (I := fdX I n v1) (n := n + 4) (v := v2)) (by omega)
  have a4 := x_addNumber (L := L) (e := e) (v := v4) hR (fdX_n (I := fdX (fdX I n v1) (n + 4) v2) (n := n + 8) (v := v3)) (by omega)
  have a5 := x_addNumber (L := L) (e := e) (v := v5) hR (fdX_n (I := fdX (fdX (fdX I n v1) (n + 4) v2) (n + 8) v3) (n := n + 12) (v := v4)) (by omega)
  simp (disch := first | exact rt_bo_0 | exact rt_bo_1 | exact ns_float | exact ns_int | exact ns_ref | omega | (simp (disch := omega) only [ob_0, rg_0_0 hR, rg_0_1 hR, rg_0_2 hR, rg_0_3 hR, rg_0_4 hR, rg_0_5 hR, rg_0_6 hR, ob_7, rg_7_0 hR, ar_8, ln_8, rt_in_nI, Option.isSome_some, Option.getD_some]; done) | fail) only [e_X9_feed_0, e_X9_feed_1, e_X9_feed_4, e_X9_feed_6, e_X9_feed_9, e_X9_feed_12, e_X9_feed_13, e_X9_feed_14, e_X9_feed_15, e_X9_feed_18, e_X9_feed_19, e_X9_feed_22, e_X9_feed_23, e_X9_feed_26, e_X9_feed_27, e_X9_feed_30, e_X9_feed_31, e_X9_feed_34, e_X9_feed_35, e_X9_feed_38, e_X9_feed_39, e_X9_feed_42, e_X9_feed_44, e_X9_feed_47, e_X9_feed_48, e_X9_feed_51, e_X9_feed_53, e_X9_feed_56, e_X9_feed_57, e_X9_feed_60, e_X9_feed_63, e_X7_length_0, e_X7_length_1, e_X7_length_4, rg_0_1 hR, h4, a1, a2, a3, a4, a5, fdX_n, Option.getD_some, Option.bind_some, Option.toList_some, Option.toList_none, List.cons_append, List.nil_append, q_10, q_m10, q_00, q_lt, q_le, q_l0, q_0l, q_e1, q_eq, nI_cl, q_s, if_false, if_true]
end P13
section P14
variable {e : Nat} {I : Nat → Nat → Int32} {L : Nat → Nat → Int64} {R : Nat → Nat → Option Nat} {a b n : Nat} {v : Int32}
theorem q_t3 : ((3 : Int32) < 0) = False := by decide
theorem q_t2 : ((2 : Int32) < 0) = False := by decide
theorem q_t1 : ((1 : Int32) < 0) = False := by decide
theorem q_u3 : (3 : Int32) + -1 = 2 := by decide
theorem q_u2 : (2 : Int32) + -1 = 1 := by decide
theorem q_u1 : (1 : Int32) + -1 = 0 := by decide
theorem q_u0 : (0 : Int32) + -1 = -1 := by decide
theorem q_w3 : (8 : Int32) * 3 = 24 := by decide
theorem q_w2 : (8 : Int32) * 2 = 16 := by decide
theorem q_w1 : (8 : Int32) * 1 = 8 := by decide
theorem q_w0 : (8 : Int32) * 0 = 0 := by decide
theorem q_mm : ((-1 : Int32) < 0) = True := by decide
theorem bM_twice {s : Int32} : (bM v s).toInt8.toInt32 = bM v s := by
  unfold bM
  rw [Int8.toInt8_toInt32]
def fdM (I : Nat → Nat → Int32) (n : Nat) (v : Int32) : Nat → Nat → Int32 :=
  rt_up (rt_up (rt_up (rt_up (rt_up (rt_up (rt_up (rt_up I 44 n (bM v 24)) 33 13 (nI (n + 1))) 44 (n + 1) (bM v 16)) 33 13 (nI (n + 1 + 1))) 44 (n + 1 + 1) (bM v 8)) 33 13 (nI (n + 1 + 1 + 1))) 44 (n + 1 + 1 + 1) (bM v 0)) 33 13 (nI (n + 1 + 1 + 1 + 1))
theorem m_types (hR : RG R a b) (hT : I 33 13 = nI n) (hn : n + 4 ≤ 200) : Ev mX10_types 0 [.ref 33, .int v, .float 0] [] (71 + e, I, L, R) = some (none, (71 + e, fdM I n v, L, R)) := by
  have hb : ∀ s : Int32, (v >>> (s &&& 31)).toInt8.toInt32 = bM v s := fun _ => rfl
  simp (disch := first | exact rt_bo_0 | exact rt_bo_1 | exact ns_float | exact ns_int | exact ns_ref | omega | (simp (disch := omega) only [ob_33, rg_33_2 hR, ar_34, ln_34, rg_33_3 hR, ar_35, ln_35, rg_33_4 hR, ar_36, ln_36, rg_33_5 hR, ar_37, ln_37, rg_33_6 hR, ar_38, ln_38, rg_33_7 hR, ar_39, ln_39, rg_33_8 hR, ar_40, ln_40, rg_33_9 hR, ar_41, ln_41, rg_33_10 hR, ar_42, ln_42, rg_33_11 hR, ar_43, ln_43, rg_33_12 hR, ar_44, ln_44, rg_33_19 hR, ar_45, ln_45, rg_33_20 hR, ar_46, ln_46, rg_33_23 hR, ar_47, ln_47, rg_33_24 hR, ar_48, ln_48, rg_33_25 hR, ar_49, ln_49, rg_33_26 hR, ar_50, ln_50, rg_33_27 hR, ar_51, ln_51, rg_33_28 hR, ar_52, ln_52, rg_33_29 hR, ar_53, ln_53, rg_33_30 hR, ar_54, ln_54, rg_33_39 hR, ar_55, ln_55, rg_33_40 hR, ar_56, ln_56, rg_33_41 hR, ar_57, ln_57, rg_33_42 hR, ar_58, ln_58, rg_33_43 hR, ar_59, ln_59, rg_33_44 hR, ar_60, ln_60, rg_33_45 hR, ar_61, ln_61, rg_33_48 hR, ar_62, ln_62, rg_33_49 hR, ar_63, ln_63, rg_33_50 hR, ar_64, ln_64, rg_33_56 hR, ar_65, ln_65, rg_33_57 hR, ar_66, ln_66, rg_33_58 hR, ar_67, ln_67, rg_33_59 hR, ar_68, ln_68, rg_33_66 hR, ar_69, ln_69, rg_33_67 hR, ar_70, ln_70, rt_in_nI, Option.isSome_some, Option.getD_some]; done) | fail) only [e_X10_types_0, e_X10_types_1, e_X10_types_2, e_X10_types_3, e_X10_types_6, e_X10_types_7, e_X10_types_10, e_X10_types_11, e_X10_types_14, e_X10_types_15, e_X10_types_17, e_X10_types_18, e_X10_types_19, e_X10_types_20, e_X10_types_21, e_X10_types_21z, e_X10_types_22, e_X10_types_23, e_X10_types_24, e_X10_types_27, e_X10_types_28, e_X10_types_29, e_X10_types_32, e_X10_types_35, e_X10_types_38, hT, rg_33_12 hR, q_t3, q_t2, q_t1, q_f0, q_mm, q_u3, q_u2, q_u1, q_u0, q_w3, q_w2, q_w1, q_w0, hb, bM_twice, Option.getD_some, Option.bind_some, nI_cl, q_s, if_false, if_true, rt_up_eq, rt_up_n1]
  rfl
end P14

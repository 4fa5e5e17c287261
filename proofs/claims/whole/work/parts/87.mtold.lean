section P25
variable {e : Nat} {I I2 : Nat → Nat → Int32} {L : Nat → Nat → Int64} {R : Nat → Nat → Option Nat} {a b T j n k p i nw s r NR : Nat} {x : Int32} {q : PhT} {tp : Nat → PhT} {td dg : Nat → Nat → Nat} {to_ : Nat → Option Nat} {it th one ln : Option Nat}
theorem m_told_l {J : Nat → Nat → Int32} (h : SM J R a b T nw tp td to_ it th) : ∀ (g k : Nat) (I : Nat → Nat → Int32), k + g = nw → (∀ c, c ≠ 63 → c ≠ 64 → I c = J c) → (∀ j, j < k → I 64 j = bs (tsn T (J 34) (J 35) (J 36) (J 37) tp td to_ it th k j) T) →
    ∃ I2, Ev mX10_worksTold 2 [.ref 33, .int (nI k)] [] (71 + e, I, L, R) = some (none, (71 + e, I2, L, R)) ∧ (∀ c, c ≠ 63 → c ≠ 64 → I2 c = J c) ∧ ∀ j, j < nw → I2 64 j = bs (tsn T (J 34) (J 35) (J 36) (J 37) tp td to_ it th nw j) T := by
  have hR := h.1
  have h8 := h.2.2.2.2.1
  intro g
  induction g with
  | zero =>
    intro k I hk hF hj
    have hk' : k = nw := by omega
    subst hk'
    refine ⟨I, ?_, hF, hj⟩
    have h9 : I 33 22 = nI k := by rw [hF 33 (by omega) (by omega)]; exact h.2.2.2.2.2.1
    rw [e_X10_worksTold_2]
    simp (disch := first | exact rt_bo_0 | exact rt_bo_1 | exact ns_float | exact ns_int | exact ns_ref | assumption | omega | (simp (disch := omega) only [ob_33, rg_33_2 hR, ar_34, ln_34, rg_33_3 hR, ar_35, ln_35, rg_33_4 hR, ar_36, ln_36, rg_33_5 hR, ar_37, ln_37, rg_33_6 hR, ar_38, ln_38, rg_33_7 hR, ar_39, ln_39, rg_33_8 hR, ar_40, ln_40, rg_33_9 hR, ar_41, ln_41, rg_33_10 hR, ar_42, ln_42, rg_33_11 hR, ar_43, ln_43, rg_33_12 hR, ar_44, ln_44, rg_33_19 hR, ar_45, ln_45, rg_33_20 hR, ar_46, ln_46, rg_33_23 hR, ar_47, ln_47, rg_33_24 hR, ar_48, ln_48, rg_33_25 hR, ar_49, ln_49, rg_33_26 hR, ar_50, ln_50, rg_33_27 hR, ar_51, ln_51, rg_33_28 hR, ar_52, ln_52, rg_33_29 hR, ar_53, ln_53, rg_33_30 hR, ar_54, ln_54, rg_33_39 hR, ar_55, ln_55, rg_33_40 hR, ar_56, ln_56, rg_33_41 hR, ar_57, ln_57, rg_33_42 hR, ar_58, ln_58, rg_33_43 hR, ar_59, ln_59, rg_33_44 hR, ar_60, ln_60, rg_33_45 hR, ar_61, ln_61, rg_33_48 hR, ar_62, ln_62, rg_33_49 hR, ar_63, ln_63, rg_33_50 hR, ar_64, ln_64, rg_33_56 hR, ar_65, ln_65, rg_33_57 hR, ar_66, ln_66, rg_33_58 hR, ar_67, ln_67, rg_33_59 hR, ar_68, ln_68, rg_33_66 hR, ar_69, ln_69, rg_33_67 hR, ar_70, ln_70, rt_in_nI, Option.isSome_some, Option.getD_some, Bool.or_true, Bool.true_or]; done) | fail) only [e_X10_worksTold_0, e_X10_worksTold_1, e_X10_worksTold_3, e_X10_worksTold_4, e_X10_worksTold_7, e_X10_worksTold_10, e_X10_worksTold_11, e_X10_worksTold_12, e_X10_worksTold_13, e_X10_worksTold_14, e_X10_worksTold_15, e_X10_worksTold_18, e_X10_worksTold_19, e_X10_worksTold_20, e_X10_worksTold_21, e_X10_worksTold_22, e_X10_worksTold_23, e_X10_worksTold_26, e_X10_worksTold_27, e_X10_worksTold_28, e_X10_worksTold_29, e_X10_worksTold_30, e_X10_worksTold_33, e_X10_worksTold_34, e_X10_worksTold_37, e_X10_worksTold_38, e_X10_worksTold_39, e_X10_worksTold_42, e_X10_worksTold_44, e_X10_worksTold_45, e_X10_worksTold_46, e_X10_worksTold_47, e_X10_worksTold_48, e_X10_worksTold_49, e_X10_worksTold_50, e_X10_worksTold_53, e_X10_worksTold_56, h9, q_le, Nat.le_refl, if_true, Option.getD_some, Option.bind_some, Option.toList_some, Option.toList_none, List.cons_append, List.nil_append]
  | succ g ih =>
    intro k I hk hF hj
    have c : ¬ nw ≤ k := by omega
    have hs : SM I R a b T nw tp td to_ it th := SM_fr h ⟨fun c h1 h2 => hF c (by omega) (by omega), fun k _ => by rw [hF 33 (by omega) (by omega)]⟩
    obtain ⟨g3, g4, g5, g6, g7, g8, g9⟩ := hs.2.2.2.2.2.2.1 k (by omega)
    obtain ⟨IB, hB1, hB2, -, hB3⟩ := m_works (e := e) (L := L) hs (show 1 + k < 9 by omega) g3 (show k ≤ 8 by omega) g4 g5 g8 g6 (ts := tsn T (J 34) (J 35) (J 36) (J 37) tp td to_ it th k) hj
    rw [hF 34 (by omega) (by omega), hF 35 (by omega) (by omega), hF 36 (by omega) (by omega), hF 37 (by omega) (by omega)] at hB3
    obtain ⟨I2, hE, hG, hM⟩ := ih (k + 1) (rt_up IB 64 k (IB 63 (7 * (1 + k)))) (by omega) (fun c hc hd => by rw [rt_up_f hd, hB2 c hc]; exact hF c hc hd) (fun j hj2 => by
      show rt_up IB 64 k (IB 63 (7 * (1 + k))) 64 j = bs (fun x => if j = k then mng T (J 34) (J 37) (tp k) (td k) (aln (J 34) (J 35) (J 36) (tsn T (J 34) (J 35) (J 36) (J 37) tp td to_ it th k) it th (to_ k) (tp k)) 0 x else tsn T (J 34) (J 35) (J 36) (J 37) tp td to_ it th k j x) T
      by_cases hjk : j = k
      · subst hjk
        have := hB3 0 g9
        rw [Nat.add_zero] at this
        rw [rt_up_eq, this]
        simp only [if_true]
      · simp only [if_neg hjk]
        rw [rt_up_n2 hjk, hB2 64 (by omega)]
        exact hj j (by omega))
    refine ⟨I2, ?_, hG, hM⟩
    have h9 : I 33 22 = nI nw := hs.2.2.2.2.2.1
    have q1 : (1 : Int32) + nI k = nI (1 + k) := by rw [q_1p, Nat.add_comm]
    rw [e_X10_worksTold_2]
    simp (disch := first | exact rt_bo_0 | exact rt_bo_1 | exact ns_float | exact ns_int | exact ns_ref | assumption | omega | (simp (disch := omega) only [ob_33, rg_33_2 hR, ar_34, ln_34, rg_33_3 hR, ar_35, ln_35, rg_33_4 hR, ar_36, ln_36, rg_33_5 hR, ar_37, ln_37, rg_33_6 hR, ar_38, ln_38, rg_33_7 hR, ar_39, ln_39, rg_33_8 hR, ar_40, ln_40, rg_33_9 hR, ar_41, ln_41, rg_33_10 hR, ar_42, ln_42, rg_33_11 hR, ar_43, ln_43, rg_33_12 hR, ar_44, ln_44, rg_33_19 hR, ar_45, ln_45, rg_33_20 hR, ar_46, ln_46, rg_33_23 hR, ar_47, ln_47, rg_33_24 hR, ar_48, ln_48, rg_33_25 hR, ar_49, ln_49, rg_33_26 hR, ar_50, ln_50, rg_33_27 hR, ar_51, ln_51, rg_33_28 hR, ar_52, ln_52, rg_33_29 hR, ar_53, ln_53, rg_33_30 hR, ar_54, ln_54, rg_33_39 hR, ar_55, ln_55, rg_33_40 hR, ar_56, ln_56, rg_33_41 hR, ar_57, ln_57, rg_33_42 hR, ar_58, ln_58, rg_33_43 hR, ar_59, ln_59, rg_33_44 hR, ar_60, ln_60, rg_33_45 hR, ar_61, ln_61, rg_33_48 hR, ar_62, ln_62, rg_33_49 hR, ar_63, ln_63, rg_33_50 hR, ar_64, ln_64, rg_33_56 hR, ar_65, ln_65, rg_33_57 hR, ar_66, ln_66, rg_33_58 hR, ar_67, ln_67, rg_33_59 hR, ar_68, ln_68, rg_33_66 hR, ar_69, ln_69, rg_33_67 hR, ar_70, ln_70, rt_in_nI, Option.isSome_some, Option.getD_some, Bool.or_true, Bool.true_or]; done) | fail) only [e_X10_worksTold_0, e_X10_worksTold_1, e_X10_worksTold_3, e_X10_worksTold_4, e_X10_worksTold_7, e_X10_worksTold_10, e_X10_worksTold_11, e_X10_worksTold_12, e_X10_worksTold_13, e_X10_worksTold_14, e_X10_worksTold_15, e_X10_worksTold_18, e_X10_worksTold_19, e_X10_worksTold_20, e_X10_worksTold_21, e_X10_worksTold_22, e_X10_worksTold_23, e_X10_worksTold_26, e_X10_worksTold_27, e_X10_worksTold_28, e_X10_worksTold_29, e_X10_worksTold_30, e_X10_worksTold_33, e_X10_worksTold_34, e_X10_worksTold_37, e_X10_worksTold_38, e_X10_worksTold_39, e_X10_worksTold_42, e_X10_worksTold_44, e_X10_worksTold_45, e_X10_worksTold_46, e_X10_worksTold_47, e_X10_worksTold_48, e_X10_worksTold_49, e_X10_worksTold_50, e_X10_worksTold_53, e_X10_worksTold_56, h9, q_le, q_s, q1, q_7m, c, rg_33_29 hR, rg_33_30 hR, rg_33_49 hR, rg_33_50 hR, nI_cl, g7, hB1, if_false, Option.getD_some, Option.bind_some, Option.toList_some, Option.toList_none, List.cons_append, List.nil_append]
    exact hE
theorem m_told (h : SM I R a b T nw tp td to_ it th) : ∃ I2, Ev mX10_worksTold 0 [.ref 33, .float 0] [] (71 + e, I, L, R) = some (none, (71 + e, I2, L, R)) ∧ (∀ c, c ≠ 63 → c ≠ 64 → I2 c = I c) ∧ ∀ j, j < nw → I2 64 j = bs (tsn T (I 34) (I 35) (I 36) (I 37) tp td to_ it th nw j) T := by
  obtain ⟨I2, hE, hF, hM⟩ := m_told_l (e := e) (L := L) h nw 0 I (by omega) (fun _ _ _ => rfl) (fun j hj => by omega)
  refine ⟨I2, ?_, hF, hM⟩
  have hR := h.1
  rw [nI_0] at hE
  simp (disch := first | exact rt_bo_0 | exact rt_bo_1 | exact ns_float | exact ns_int | exact ns_ref | assumption | omega | (simp (disch := omega) only [ob_33, rg_33_2 hR, ar_34, ln_34, rg_33_3 hR, ar_35, ln_35, rg_33_4 hR, ar_36, ln_36, rg_33_5 hR, ar_37, ln_37, rg_33_6 hR, ar_38, ln_38, rg_33_7 hR, ar_39, ln_39, rg_33_8 hR, ar_40, ln_40, rg_33_9 hR, ar_41, ln_41, rg_33_10 hR, ar_42, ln_42, rg_33_11 hR, ar_43, ln_43, rg_33_12 hR, ar_44, ln_44, rg_33_19 hR, ar_45, ln_45, rg_33_20 hR, ar_46, ln_46, rg_33_23 hR, ar_47, ln_47, rg_33_24 hR, ar_48, ln_48, rg_33_25 hR, ar_49, ln_49, rg_33_26 hR, ar_50, ln_50, rg_33_27 hR, ar_51, ln_51, rg_33_28 hR, ar_52, ln_52, rg_33_29 hR, ar_53, ln_53, rg_33_30 hR, ar_54, ln_54, rg_33_39 hR, ar_55, ln_55, rg_33_40 hR, ar_56, ln_56, rg_33_41 hR, ar_57, ln_57, rg_33_42 hR, ar_58, ln_58, rg_33_43 hR, ar_59, ln_59, rg_33_44 hR, ar_60, ln_60, rg_33_45 hR, ar_61, ln_61, rg_33_48 hR, ar_62, ln_62, rg_33_49 hR, ar_63, ln_63, rg_33_50 hR, ar_64, ln_64, rg_33_56 hR, ar_65, ln_65, rg_33_57 hR, ar_66, ln_66, rg_33_58 hR, ar_67, ln_67, rg_33_59 hR, ar_68, ln_68, rg_33_66 hR, ar_69, ln_69, rg_33_67 hR, ar_70, ln_70, rt_in_nI, Option.isSome_some, Option.getD_some, Bool.or_true, Bool.true_or]; done) | fail) only [e_X10_worksTold_0, e_X10_worksTold_1, e_X10_worksTold_3, e_X10_worksTold_4, e_X10_worksTold_7, e_X10_worksTold_10, e_X10_worksTold_11, e_X10_worksTold_12, e_X10_worksTold_13, e_X10_worksTold_14, e_X10_worksTold_15, e_X10_worksTold_18, e_X10_worksTold_19, e_X10_worksTold_20, e_X10_worksTold_21, e_X10_worksTold_22, e_X10_worksTold_23, e_X10_worksTold_26, e_X10_worksTold_27, e_X10_worksTold_28, e_X10_worksTold_29, e_X10_worksTold_30, e_X10_worksTold_33, e_X10_worksTold_34, e_X10_worksTold_37, e_X10_worksTold_38, e_X10_worksTold_39, e_X10_worksTold_42, e_X10_worksTold_44, e_X10_worksTold_45, e_X10_worksTold_46, e_X10_worksTold_47, e_X10_worksTold_48, e_X10_worksTold_49, e_X10_worksTold_50, e_X10_worksTold_53, e_X10_worksTold_56, hE]
/-- the saying at hand, as the reference holds it -/
def YM (I : Nat → Nat → Int32) (q : PhT) (NR : Nat) (dg : Nat → Nat → Nat) (nw : Nat) (ln : Option Nat) : Prop :=
  PM I 0 q ∧ I 33 35 = nI NR ∧ NR ≤ 264 ∧ (∀ r, r < NR → DM (I 55 r) (pO q) (dg r) ∧ wfd q (dg r)) ∧ I 33 46 = oM ln ∧ won nw ln ∧ wfq nw q
theorem YM_fr (h : YM I q NR dg nw ln) (hf : Fm I I2) : YM I2 q NR dg nw ln := by
  obtain ⟨h1, h2, h3, h4, h5, h6, h7⟩ := h
  obtain ⟨f1, f2⟩ := hf
  refine ⟨PM_fr h1 (fun c hc1 hc2 => f1 c (by omega) (by omega)), ?_, h3, ?_, ?_, h6, h7⟩
  · rw [f2 35 (by omega)]; exact h2
  · rw [f1 55 (by omega) (by omega)]; exact h4
  · rw [f2 46 (by omega)]; exact h5
/-- what the NPs of the saying mean by a reading -/
def mnr (T : Nat) (so co si at_ : Nat → Int32) (tp : Nat → PhT) (td : Nat → Nat → Nat) (to_ : Nat → Option Nat) (it th : Option Nat) (nw : Nat) (ln : Option Nat) (q : PhT) (d : Nat → Nat) : Nat → Nat → Bool :=
  mng T so at_ q d (aln so co si (tsn T so co si at_ tp td to_ it th nw) it th ln q)
theorem m_wread (h : SM I R a b T nw tp td to_ it th) (hy : YM I q NR dg nw ln) (hr : r < NR) : ∃ I2, Ev mX10_worksReading 0 [.ref 33, .int (nI r)] [] (71 + e, I, L, R) = some (none, (71 + e, I2, L, R)) ∧ (∀ c, c ≠ 63 → c ≠ 64 → I2 c = I c) ∧ ∀ j, j < pP q → I2 63 j = bs (mnr T (I 34) (I 35) (I 36) (I 37) tp td to_ it th nw ln q (dg r) j) T := by
  have hR := h.1
  obtain ⟨IA, hA1, hA2, hA3⟩ := m_told (e := e) (L := L) h
  have hFm : Fm I IA := ⟨fun c h1 h2 => hA2 c (by omega) (by omega), fun k _ => by rw [hA2 33 (by omega) (by omega)]⟩
  have hs := SM_fr h hFm
  obtain ⟨y1, y2, y3, y4, y5, y6, y7⟩ := YM_fr hy hFm
  obtain ⟨IB, hB1, hB2, -, hB3⟩ := m_works (e := e) (L := L) hs (show 0 < 9 by omega) y1 h.2.2.2.2.1 y7 (y4 r hr).2 (y4 r hr).1 y6 hA3
  rw [hA2 34 (by omega) (by omega), hA2 35 (by omega) (by omega), hA2 36 (by omega) (by omega), hA2 37 (by omega) (by omega)] at hB3
  refine ⟨IB, ?_, fun c h1 h2 => by rw [hB2 c h1, hA2 c h1 h2], fun j hj => by have := hB3 j hj; rw [Nat.mul_zero, Nat.zero_add] at this; exact this⟩
  rw [nI_0] at hB1
  simp (disch := first | exact rt_bo_0 | exact rt_bo_1 | exact ns_float | exact ns_int | exact ns_ref | assumption | omega | (simp (disch := omega) only [ob_33, rg_33_2 hR, ar_34, ln_34, rg_33_3 hR, ar_35, ln_35, rg_33_4 hR, ar_36, ln_36, rg_33_5 hR, ar_37, ln_37, rg_33_6 hR, ar_38, ln_38, rg_33_7 hR, ar_39, ln_39, rg_33_8 hR, ar_40, ln_40, rg_33_9 hR, ar_41, ln_41, rg_33_10 hR, ar_42, ln_42, rg_33_11 hR, ar_43, ln_43, rg_33_12 hR, ar_44, ln_44, rg_33_19 hR, ar_45, ln_45, rg_33_20 hR, ar_46, ln_46, rg_33_23 hR, ar_47, ln_47, rg_33_24 hR, ar_48, ln_48, rg_33_25 hR, ar_49, ln_49, rg_33_26 hR, ar_50, ln_50, rg_33_27 hR, ar_51, ln_51, rg_33_28 hR, ar_52, ln_52, rg_33_29 hR, ar_53, ln_53, rg_33_30 hR, ar_54, ln_54, rg_33_39 hR, ar_55, ln_55, rg_33_40 hR, ar_56, ln_56, rg_33_41 hR, ar_57, ln_57, rg_33_42 hR, ar_58, ln_58, rg_33_43 hR, ar_59, ln_59, rg_33_44 hR, ar_60, ln_60, rg_33_45 hR, ar_61, ln_61, rg_33_48 hR, ar_62, ln_62, rg_33_49 hR, ar_63, ln_63, rg_33_50 hR, ar_64, ln_64, rg_33_56 hR, ar_65, ln_65, rg_33_57 hR, ar_66, ln_66, rg_33_58 hR, ar_67, ln_67, rg_33_59 hR, ar_68, ln_68, rg_33_66 hR, ar_69, ln_69, rg_33_67 hR, ar_70, ln_70, rt_in_nI, Option.isSome_some, Option.getD_some, Bool.or_true, Bool.true_or]; done) | fail) only [e_X10_worksReading_0, e_X10_worksReading_1, e_X10_worksReading_4, e_X10_worksReading_5, e_X10_worksReading_6, e_X10_worksReading_7, e_X10_worksReading_10, e_X10_worksReading_11, e_X10_worksReading_12, e_X10_worksReading_13, e_X10_worksReading_16, e_X10_worksReading_19, hA1, rg_33_39 hR, nI_cl, y5, hB1, Option.getD_some, Option.bind_some, Option.toList_some, Option.toList_none, List.cons_append, List.nil_append]
theorem bs_bt {V : Nat → Bool} (hT : T ≤ 16) {i : Nat} (hi : i < 32) : (bs V T >>> (nI i &&& 31)) &&& 1 = if (decide (i < T) && V i) = true then 1 else 0 := by
  rw [bs_ask (by omega) hi]
  by_cases h : i < T <;> simp [h]
theorem m_bits_l {V : Nat → Bool} (hT : T ≤ 16) {h : rt_H} : ∀ (f k : Nat), k + f = 16 → Ev mX10_bits 4 [.int (bs V T), .int (nI (cn (fun i => decide (i < T) && V i) k)), .int (nI k)] [] h = some (some (.int (nI (cn (fun i => decide (i < T) && V i) 16))), h) := by
  have e16 : (16 : Int32) = nI 16 := rfl
  intro f
  induction f with
  | zero =>
    intro k hk
    have hk' : k = 16 := by omega
    subst hk'
    rw [e_X10_bits_4]
    simp (disch := first | exact rt_bo_0 | exact rt_bo_1 | exact ns_float | exact ns_int | exact ns_ref | assumption | omega | (simp (disch := omega) only [rt_in_0, rt_in_nI, Option.isSome_some, Option.getD_some, Bool.or_true, Bool.true_or]; done) | fail) only [e_X10_bits_0, e_X10_bits_1, e_X10_bits_2, e_X10_bits_3, e_X10_bits_5, e_X10_bits_7, e_X10_bits_10, e_X10_bits_11, e_X10_bits_12, e_X10_bits_13, e_X10_bits_14, e_X10_bits_15, e_X10_bits_16, e_X10_bits_17, e_X10_bits_18, e_X10_bits_21, e_X10_bits_24, e_X10_bits_25, e16, q_le, Nat.le_refl, if_true, Option.getD_some, Option.bind_some, Option.toList_some, Option.toList_none, List.cons_append, List.nil_append]
  | succ f ih =>
    intro k hk
    have c : ¬ 16 ≤ k := by omega
    have hh := ih (k + 1) (by omega)
    have hcl := cn_le (fun i => decide (i < T) && V i) k
    rw [e_X10_bits_4]
    simp (disch := first | exact rt_bo_0 | exact rt_bo_1 | exact ns_float | exact ns_int | exact ns_ref | assumption | omega | (simp (disch := omega) only [rt_in_0, rt_in_nI, Option.isSome_some, Option.getD_some, Bool.or_true, Bool.true_or]; done) | fail) only [e_X10_bits_0, e_X10_bits_1, e_X10_bits_2, e_X10_bits_3, e_X10_bits_5, e_X10_bits_7, e_X10_bits_10, e_X10_bits_11, e_X10_bits_12, e_X10_bits_13, e_X10_bits_14, e_X10_bits_15, e_X10_bits_16, e_X10_bits_17, e_X10_bits_18, e_X10_bits_21, e_X10_bits_24, e_X10_bits_25, e16, q_le, q_s, c, bs_bt hT (show k < 32 by omega), if_false, Option.getD_some, Option.bind_some, Option.toList_some, Option.toList_none, List.cons_append, List.nil_append]
    have hc : cn (fun i => decide (i < T) && V i) (k + 1) = if (decide (k < T) && V k) = true then cn (fun i => decide (i < T) && V i) k + 1 else cn (fun i => decide (i < T) && V i) k := rfl
    rw [hc] at hh
    by_cases hv : (decide (k < T) && V k) = true
    · rw [if_pos hv] at hh ⊢
      rw [q_s]
      exact hh
    · rw [if_neg hv] at hh ⊢
      rw [Int32.add_zero]
      exact hh
theorem cn_cut {V : Nat → Bool} (hT : T ≤ 16) : cn (fun i => decide (i < T) && V i) 16 = cn V T := by
  have h1 := cn_far (p := fun i => decide (i < T) && V i) (n := T) (fun x hx => by simp [show ¬ x < T by omega]) (16 - T)
  rw [show T + (16 - T) = 16 by omega] at h1
  rw [h1]
  exact cn_congr (fun x hx => by simp [hx])
theorem m_bits {V : Nat → Bool} (hT : T ≤ 16) {h : rt_H} : Ev mX10_bits 0 [.int (bs V T), .float 0, .float 0] [] h = some (some (.int (nI (cn V T))), h) := by
  have hh := m_bits_l (V := V) hT (h := h) 16 0 (by omega)
  rw [cn_cut hT] at hh
  have e0 : nI (cn (fun i => decide (i < T) && V i) 0) = 0 := rfl
  rw [e0, nI_0] at hh
  simp (disch := first | exact rt_bo_0 | exact rt_bo_1 | exact ns_float | exact ns_int | exact ns_ref | assumption | omega | (simp (disch := omega) only [rt_in_0, rt_in_nI, Option.isSome_some, Option.getD_some, Bool.or_true, Bool.true_or]; done) | fail) only [e_X10_bits_0, e_X10_bits_1, e_X10_bits_2, e_X10_bits_3, e_X10_bits_5, e_X10_bits_7, e_X10_bits_10, e_X10_bits_11, e_X10_bits_12, e_X10_bits_13, e_X10_bits_14, e_X10_bits_15, e_X10_bits_16, e_X10_bits_17, e_X10_bits_18, e_X10_bits_21, e_X10_bits_24, e_X10_bits_25, hh]
/-- the first of those -/
theorem m_low_l {V : Nat → Bool} (hT : T ≤ 16) {h : rt_H} : ∀ (f k : Nat), k + f = T → (∃ z, k ≤ z ∧ z < T ∧ V z = true) → Ev mX10_lowest 2 [.int (bs V T), .int (nI k)] [] h = some (some (.int (ff (fun z => V z = true) k f)), h) := by
  intro f
  induction f with
  | zero =>
    intro k hk hz
    obtain ⟨z, h1, h2, -⟩ := hz
    omega
  | succ f ih =>
    intro k hk hz
    rw [e_X10_lowest_2]
    have hkT : k < T := by omega
    have q0 : ∀ c : Bool, ((if c = true then (1 : Int32) else 0) = 0) = (c = false) := by intro c; cases c <;> simp
    simp (disch := first | exact rt_bo_0 | exact rt_bo_1 | exact ns_float | exact ns_int | exact ns_ref | assumption | omega | (simp (disch := omega) only [rt_in_0, rt_in_nI, Option.isSome_some, Option.getD_some, Bool.or_true, Bool.true_or]; done) | fail) only [e_X10_lowest_0, e_X10_lowest_1, e_X10_lowest_3, e_X10_lowest_4, e_X10_lowest_5, e_X10_lowest_6, e_X10_lowest_7, e_X10_lowest_10, e_X10_lowest_11, e_X10_lowest_12, e_X10_lowest_13, e_X10_lowest_14, e_X10_lowest_17, e_X10_lowest_18, bs_bt hT (show k < 32 by omega), q0, q_s, Option.getD_some, Option.bind_some, Option.toList_some, Option.toList_none, List.cons_append, List.nil_append]
    unfold ff
    cases hv : V k with
    | true => simp [hkT, show ¬ T ≤ k by omega]
    | false =>
      simp only [Bool.and_false, if_true, Bool.false_eq_true, if_false]
      apply ih (k + 1) (by omega)
      obtain ⟨z, h1, h2, h3⟩ := hz
      have : z ≠ k := fun q => by rw [q, hv] at h3; cases h3
      exact ⟨z, by omega, h2, h3⟩
theorem m_low {V : Nat → Bool} (hT : T ≤ 16) (hz : ∃ z, z < T ∧ V z = true) {h : rt_H} : Ev mX10_lowest 0 [.int (bs V T), .float 0] [] h = some (some (.int (ff (fun z => V z = true) 0 T)), h) := by
  obtain ⟨z, h1, h2⟩ := hz
  have hh := m_low_l (V := V) hT (h := h) T 0 (by omega) ⟨z, by omega, h1, h2⟩
  rw [nI_0] at hh
  simp (disch := first | exact rt_bo_0 | exact rt_bo_1 | exact ns_float | exact ns_int | exact ns_ref | assumption | omega | (simp (disch := omega) only [rt_in_0, rt_in_nI, Option.isSome_some, Option.getD_some, Bool.or_true, Bool.true_or]; done) | fail) only [e_X10_lowest_0, e_X10_lowest_1, e_X10_lowest_3, e_X10_lowest_4, e_X10_lowest_5, e_X10_lowest_6, e_X10_lowest_7, e_X10_lowest_10, e_X10_lowest_11, e_X10_lowest_12, e_X10_lowest_13, e_X10_lowest_14, e_X10_lowest_17, e_X10_lowest_18, hh]
/-- which onward is the place -/
def plc (O : Nat) (d : Nat → Nat) : Int32 := ff (fun i => d i = 0) 0 O
theorem m_plc_l (hR : RG R a b) (hy : YM I q NR dg nw ln) (hr : r < NR) : ∀ (f i : Nat), i + f = pO q → Ev mX10_placeOnward 2 [.ref 33, .int (nI r), .int (nI i)] [] (71 + e, I, L, R) = some (some (.int (ff (fun i => dg r i = 0) i f)), (71 + e, I, L, R)) := by
  obtain ⟨⟨p1, p2, p3, p4⟩, y2, y3, y4, y5, y6, y7⟩ := hy
  have hO6 : pO q ≤ 6 := by have := y7.1; have := y7.2.1; omega
  intro f
  induction f with
  | zero =>
    intro i hi
    have c : pO q ≤ i := by omega
    rw [e_X10_placeOnward_2]
    simp (disch := first | exact rt_bo_0 | exact rt_bo_1 | exact ns_float | exact ns_int | exact ns_ref | assumption | omega | (simp (disch := omega) only [ob_33, rg_33_2 hR, ar_34, ln_34, rg_33_3 hR, ar_35, ln_35, rg_33_4 hR, ar_36, ln_36, rg_33_5 hR, ar_37, ln_37, rg_33_6 hR, ar_38, ln_38, rg_33_7 hR, ar_39, ln_39, rg_33_8 hR, ar_40, ln_40, rg_33_9 hR, ar_41, ln_41, rg_33_10 hR, ar_42, ln_42, rg_33_11 hR, ar_43, ln_43, rg_33_12 hR, ar_44, ln_44, rg_33_19 hR, ar_45, ln_45, rg_33_20 hR, ar_46, ln_46, rg_33_23 hR, ar_47, ln_47, rg_33_24 hR, ar_48, ln_48, rg_33_25 hR, ar_49, ln_49, rg_33_26 hR, ar_50, ln_50, rg_33_27 hR, ar_51, ln_51, rg_33_28 hR, ar_52, ln_52, rg_33_29 hR, ar_53, ln_53, rg_33_30 hR, ar_54, ln_54, rg_33_39 hR, ar_55, ln_55, rg_33_40 hR, ar_56, ln_56, rg_33_41 hR, ar_57, ln_57, rg_33_42 hR, ar_58, ln_58, rg_33_43 hR, ar_59, ln_59, rg_33_44 hR, ar_60, ln_60, rg_33_45 hR, ar_61, ln_61, rg_33_48 hR, ar_62, ln_62, rg_33_49 hR, ar_63, ln_63, rg_33_50 hR, ar_64, ln_64, rg_33_56 hR, ar_65, ln_65, rg_33_57 hR, ar_66, ln_66, rg_33_58 hR, ar_67, ln_67, rg_33_59 hR, ar_68, ln_68, rg_33_66 hR, ar_69, ln_69, rg_33_67 hR, ar_70, ln_70, rt_in_0, rt_in_nI, Option.isSome_some, Option.getD_some, Bool.or_true, Bool.true_or]; done) | fail) only [e_X10_placeOnward_0, e_X10_placeOnward_1, e_X10_placeOnward_3, e_X10_placeOnward_4, e_X10_placeOnward_7, e_X10_placeOnward_8, e_X10_placeOnward_9, e_X10_placeOnward_12, e_X10_placeOnward_13, e_X10_placeOnward_16, e_X10_placeOnward_17, e_X10_placeOnward_18, e_X10_placeOnward_19, e_X10_placeOnward_22, e_X10_placeOnward_23, e_X10_placeOnward_24, e_X10_placeOnward_25, e_X10_placeOnward_28, e_X10_placeOnward_31, e_X10_placeOnward_32, e_X10_placeOnward_33, e_X10_placeOnward_36, e_X10_placeOnward_39, e_X10_placeOnward_40, rg_33_24 hR, cl_0, p2, q_le, c, if_true, ff, Option.getD_some, Option.bind_some, Option.toList_some, Option.toList_none, List.cons_append, List.nil_append]
  | succ f ih =>
    intro i hi
    have c : ¬ pO q ≤ i := by omega
    have hro := (y4 r hr).1 i (by omega)
    have hdi := ((y4 r hr).2 i (by omega)).1
    have q0 : (nI (dg r i) = 0) = (dg r i = 0) := by rw [← nI_0, q_eq (by omega) (by omega)]
    rw [e_X10_placeOnward_2]
    simp (disch := first | exact rt_bo_0 | exact rt_bo_1 | exact ns_float | exact ns_int | exact ns_ref | assumption | omega | (simp (disch := omega) only [ob_33, rg_33_2 hR, ar_34, ln_34, rg_33_3 hR, ar_35, ln_35, rg_33_4 hR, ar_36, ln_36, rg_33_5 hR, ar_37, ln_37, rg_33_6 hR, ar_38, ln_38, rg_33_7 hR, ar_39, ln_39, rg_33_8 hR, ar_40, ln_40, rg_33_9 hR, ar_41, ln_41, rg_33_10 hR, ar_42, ln_42, rg_33_11 hR, ar_43, ln_43, rg_33_12 hR, ar_44, ln_44, rg_33_19 hR, ar_45, ln_45, rg_33_20 hR, ar_46, ln_46, rg_33_23 hR, ar_47, ln_47, rg_33_24 hR, ar_48, ln_48, rg_33_25 hR, ar_49, ln_49, rg_33_26 hR, ar_50, ln_50, rg_33_27 hR, ar_51, ln_51, rg_33_28 hR, ar_52, ln_52, rg_33_29 hR, ar_53, ln_53, rg_33_30 hR, ar_54, ln_54, rg_33_39 hR, ar_55, ln_55, rg_33_40 hR, ar_56, ln_56, rg_33_41 hR, ar_57, ln_57, rg_33_42 hR, ar_58, ln_58, rg_33_43 hR, ar_59, ln_59, rg_33_44 hR, ar_60, ln_60, rg_33_45 hR, ar_61, ln_61, rg_33_48 hR, ar_62, ln_62, rg_33_49 hR, ar_63, ln_63, rg_33_50 hR, ar_64, ln_64, rg_33_56 hR, ar_65, ln_65, rg_33_57 hR, ar_66, ln_66, rg_33_58 hR, ar_67, ln_67, rg_33_59 hR, ar_68, ln_68, rg_33_66 hR, ar_69, ln_69, rg_33_67 hR, ar_70, ln_70, rt_in_0, rt_in_nI, Option.isSome_some, Option.getD_some, Bool.or_true, Bool.true_or]; done) | fail) only [e_X10_placeOnward_0, e_X10_placeOnward_1, e_X10_placeOnward_3, e_X10_placeOnward_4, e_X10_placeOnward_7, e_X10_placeOnward_8, e_X10_placeOnward_9, e_X10_placeOnward_12, e_X10_placeOnward_13, e_X10_placeOnward_16, e_X10_placeOnward_17, e_X10_placeOnward_18, e_X10_placeOnward_19, e_X10_placeOnward_22, e_X10_placeOnward_23, e_X10_placeOnward_24, e_X10_placeOnward_25, e_X10_placeOnward_28, e_X10_placeOnward_31, e_X10_placeOnward_32, e_X10_placeOnward_33, e_X10_placeOnward_36, e_X10_placeOnward_39, e_X10_placeOnward_40, e_X10_digitOf_0, e_X10_digitOf_1, e_X10_digitOf_2, e_X10_digitOf_3, e_X10_digitOf_4, e_X10_digitOf_5, e_X10_digitOf_6, e_X10_digitOf_7, e_X10_digitOf_8, e_X10_digitOf_9, e_X10_digitOf_11, e_X10_digitOf_12, rg_33_24 hR, rg_33_39 hR, cl_0, p2, nI_cl, hro, q0, q_le, q_s, c, if_false, ff, Option.getD_some, Option.bind_some, Option.toList_some, Option.toList_none, List.cons_append, List.nil_append]
    by_cases h0 : dg r i = 0
    · simp only [if_pos h0]
    · simp only [if_neg h0]
      exact ih (i + 1) (by omega)
theorem m_plc (hR : RG R a b) (hy : YM I q NR dg nw ln) (hr : r < NR) : Ev mX10_placeOnward 0 [.ref 33, .int (nI r), .float 0] [] (71 + e, I, L, R) = some (some (.int (plc (pO q) (dg r))), (71 + e, I, L, R)) := by
  have hh := m_plc_l (e := e) (L := L) hR hy hr (pO q) 0 (by omega)
  rw [nI_0] at hh
  simp (disch := first | exact rt_bo_0 | exact rt_bo_1 | exact ns_float | exact ns_int | exact ns_ref | assumption | omega | (simp (disch := omega) only [ob_33, rg_33_2 hR, ar_34, ln_34, rg_33_3 hR, ar_35, ln_35, rg_33_4 hR, ar_36, ln_36, rg_33_5 hR, ar_37, ln_37, rg_33_6 hR, ar_38, ln_38, rg_33_7 hR, ar_39, ln_39, rg_33_8 hR, ar_40, ln_40, rg_33_9 hR, ar_41, ln_41, rg_33_10 hR, ar_42, ln_42, rg_33_11 hR, ar_43, ln_43, rg_33_12 hR, ar_44, ln_44, rg_33_19 hR, ar_45, ln_45, rg_33_20 hR, ar_46, ln_46, rg_33_23 hR, ar_47, ln_47, rg_33_24 hR, ar_48, ln_48, rg_33_25 hR, ar_49, ln_49, rg_33_26 hR, ar_50, ln_50, rg_33_27 hR, ar_51, ln_51, rg_33_28 hR, ar_52, ln_52, rg_33_29 hR, ar_53, ln_53, rg_33_30 hR, ar_54, ln_54, rg_33_39 hR, ar_55, ln_55, rg_33_40 hR, ar_56, ln_56, rg_33_41 hR, ar_57, ln_57, rg_33_42 hR, ar_58, ln_58, rg_33_43 hR, ar_59, ln_59, rg_33_44 hR, ar_60, ln_60, rg_33_45 hR, ar_61, ln_61, rg_33_48 hR, ar_62, ln_62, rg_33_49 hR, ar_63, ln_63, rg_33_50 hR, ar_64, ln_64, rg_33_56 hR, ar_65, ln_65, rg_33_57 hR, ar_66, ln_66, rg_33_58 hR, ar_67, ln_67, rg_33_59 hR, ar_68, ln_68, rg_33_66 hR, ar_69, ln_69, rg_33_67 hR, ar_70, ln_70, rt_in_0, rt_in_nI, Option.isSome_some, Option.getD_some, Bool.or_true, Bool.true_or]; done) | fail) only [e_X10_placeOnward_0, e_X10_placeOnward_1, e_X10_placeOnward_3, e_X10_placeOnward_4, e_X10_placeOnward_7, e_X10_placeOnward_8, e_X10_placeOnward_9, e_X10_placeOnward_12, e_X10_placeOnward_13, e_X10_placeOnward_16, e_X10_placeOnward_17, e_X10_placeOnward_18, e_X10_placeOnward_19, e_X10_placeOnward_22, e_X10_placeOnward_23, e_X10_placeOnward_24, e_X10_placeOnward_25, e_X10_placeOnward_28, e_X10_placeOnward_31, e_X10_placeOnward_32, e_X10_placeOnward_33, e_X10_placeOnward_36, e_X10_placeOnward_39, e_X10_placeOnward_40, hh]
  rfl
/-- does z, or what it stands on, is thing m: at most f turns -/
def sov (T : Nat) (at_ : Nat → Int32) (m : Int32) : Nat → Nat → Bool
  | 0, _ => false
  | f + 1, z => if z < T then (if nI z = m then true else sov T at_ m f (low at_ z)) else false
theorem m_stands_l (hR : RG R a b) (hT : I 33 0 = nI T) (h16 : T ≤ 16) (hO : RoomOK T (I 34) (I 37)) {m : Int32} {v : Value} (ord : Nat → Nat) (ho : ∀ i, i < T → ord i < T) (hup : ∀ i j, i < T → j < T → I 37 i = nI j → ord j < ord i) :
    ∀ (f z : Nat) (w : Int32), (z < T → w = nI z ∧ ord z < f) → (¬ z < T → ¬ w < 16) → Ev mX10_standsOver 7 [.ref 33, v, .int m, .int w] [] (71 + e, I, L, R) = some (some (.int (b01 (sov T (I 37) m f z))), (71 + e, I, L, R)) := by
  have e16 : (16 : Int32) = nI 16 := rfl
  intro f
  induction f with
  | zero =>
    intro z w h1 h2
    by_cases hz : z < T
    · have := (h1 hz).2; omega
    · have c : (16 ≤ w) = True := eq_true (Int32.not_lt.mp (h2 hz))
      rw [e_X10_standsOver_7]
      simp (disch := first | exact rt_bo_0 | exact rt_bo_1 | exact ns_float | exact ns_int | exact ns_ref | assumption | omega | (simp (disch := omega) only [ob_33, rg_33_2 hR, ar_34, ln_34, rg_33_3 hR, ar_35, ln_35, rg_33_4 hR, ar_36, ln_36, rg_33_5 hR, ar_37, ln_37, rg_33_6 hR, ar_38, ln_38, rg_33_7 hR, ar_39, ln_39, rg_33_8 hR, ar_40, ln_40, rg_33_9 hR, ar_41, ln_41, rg_33_10 hR, ar_42, ln_42, rg_33_11 hR, ar_43, ln_43, rg_33_12 hR, ar_44, ln_44, rg_33_19 hR, ar_45, ln_45, rg_33_20 hR, ar_46, ln_46, rg_33_23 hR, ar_47, ln_47, rg_33_24 hR, ar_48, ln_48, rg_33_25 hR, ar_49, ln_49, rg_33_26 hR, ar_50, ln_50, rg_33_27 hR, ar_51, ln_51, rg_33_28 hR, ar_52, ln_52, rg_33_29 hR, ar_53, ln_53, rg_33_30 hR, ar_54, ln_54, rg_33_39 hR, ar_55, ln_55, rg_33_40 hR, ar_56, ln_56, rg_33_41 hR, ar_57, ln_57, rg_33_42 hR, ar_58, ln_58, rg_33_43 hR, ar_59, ln_59, rg_33_44 hR, ar_60, ln_60, rg_33_45 hR, ar_61, ln_61, rg_33_48 hR, ar_62, ln_62, rg_33_49 hR, ar_63, ln_63, rg_33_50 hR, ar_64, ln_64, rg_33_56 hR, ar_65, ln_65, rg_33_57 hR, ar_66, ln_66, rg_33_58 hR, ar_67, ln_67, rg_33_59 hR, ar_68, ln_68, rg_33_66 hR, ar_69, ln_69, rg_33_67 hR, ar_70, ln_70, rt_in_nI, Option.isSome_some, Option.getD_some, Bool.or_true, Bool.true_or]; done) | fail) only [e_X10_standsOver_0, e_X10_standsOver_1, e_X10_standsOver_4, e_X10_standsOver_5, e_X10_standsOver_6, e_X10_standsOver_8, e_X10_standsOver_10, e_X10_standsOver_13, e_X10_standsOver_14, e_X10_standsOver_15, e_X10_standsOver_18, e_X10_standsOver_19, e_X10_standsOver_20, e_X10_standsOver_21, e_X10_standsOver_24, e_X10_standsOver_25, e_X10_standsOver_26, e_X10_standsOver_27, e_X10_standsOver_30, e_X10_standsOver_31, c, if_true]
      rfl
  | succ f ih =>
    intro z w h1 h2
    unfold sov
    by_cases hz : z < T
    · obtain ⟨rfl, h3⟩ := h1 hz
      have c : ¬ 16 ≤ z := by omega
      rw [if_pos hz, e_X10_standsOver_7]
      simp (disch := first | exact rt_bo_0 | exact rt_bo_1 | exact ns_float | exact ns_int | exact ns_ref | assumption | omega | (simp (disch := omega) only [ob_33, rg_33_2 hR, ar_34, ln_34, rg_33_3 hR, ar_35, ln_35, rg_33_4 hR, ar_36, ln_36, rg_33_5 hR, ar_37, ln_37, rg_33_6 hR, ar_38, ln_38, rg_33_7 hR, ar_39, ln_39, rg_33_8 hR, ar_40, ln_40, rg_33_9 hR, ar_41, ln_41, rg_33_10 hR, ar_42, ln_42, rg_33_11 hR, ar_43, ln_43, rg_33_12 hR, ar_44, ln_44, rg_33_19 hR, ar_45, ln_45, rg_33_20 hR, ar_46, ln_46, rg_33_23 hR, ar_47, ln_47, rg_33_24 hR, ar_48, ln_48, rg_33_25 hR, ar_49, ln_49, rg_33_26 hR, ar_50, ln_50, rg_33_27 hR, ar_51, ln_51, rg_33_28 hR, ar_52, ln_52, rg_33_29 hR, ar_53, ln_53, rg_33_30 hR, ar_54, ln_54, rg_33_39 hR, ar_55, ln_55, rg_33_40 hR, ar_56, ln_56, rg_33_41 hR, ar_57, ln_57, rg_33_42 hR, ar_58, ln_58, rg_33_43 hR, ar_59, ln_59, rg_33_44 hR, ar_60, ln_60, rg_33_45 hR, ar_61, ln_61, rg_33_48 hR, ar_62, ln_62, rg_33_49 hR, ar_63, ln_63, rg_33_50 hR, ar_64, ln_64, rg_33_56 hR, ar_65, ln_65, rg_33_57 hR, ar_66, ln_66, rg_33_58 hR, ar_67, ln_67, rg_33_59 hR, ar_68, ln_68, rg_33_66 hR, ar_69, ln_69, rg_33_67 hR, ar_70, ln_70, rt_in_nI, Option.isSome_some, Option.getD_some, Bool.or_true, Bool.true_or]; done) | fail) only [e_X10_standsOver_0, e_X10_standsOver_1, e_X10_standsOver_4, e_X10_standsOver_5, e_X10_standsOver_6, e_X10_standsOver_8, e_X10_standsOver_10, e_X10_standsOver_13, e_X10_standsOver_14, e_X10_standsOver_15, e_X10_standsOver_18, e_X10_standsOver_19, e_X10_standsOver_20, e_X10_standsOver_21, e_X10_standsOver_24, e_X10_standsOver_25, e_X10_standsOver_26, e_X10_standsOver_27, e_X10_standsOver_30, e_X10_standsOver_31, e16, q_le, c, rg_33_5 hR, nI_cl, if_false, Option.getD_some, Option.bind_some, Option.toList_some, Option.toList_none, List.cons_append, List.nil_append]
      by_cases hm : nI z = m
      · rw [if_pos hm, if_pos hm]
        rfl
      · rw [if_neg hm, if_neg hm]
        apply ih
        · intro hl
          rcases low_cases hO h16 hz with ⟨-, g2, -⟩ | ⟨g1, g2, -⟩
          · exact absurd hl g2
          · exact ⟨g2, by have := hup z (low (I 37) z) hz g1 g2; omega⟩
        · intro hl
          rcases low_cases hO h16 hz with ⟨-, -, g3⟩ | ⟨g1, -, -⟩
          · exact g3
          · exact absurd g1 hl
    · have c : (16 ≤ w) = True := eq_true (Int32.not_lt.mp (h2 hz))
      rw [if_neg hz, e_X10_standsOver_7]
      simp (disch := first | exact rt_bo_0 | exact rt_bo_1 | exact ns_float | exact ns_int | exact ns_ref | assumption | omega | (simp (disch := omega) only [ob_33, rg_33_2 hR, ar_34, ln_34, rg_33_3 hR, ar_35, ln_35, rg_33_4 hR, ar_36, ln_36, rg_33_5 hR, ar_37, ln_37, rg_33_6 hR, ar_38, ln_38, rg_33_7 hR, ar_39, ln_39, rg_33_8 hR, ar_40, ln_40, rg_33_9 hR, ar_41, ln_41, rg_33_10 hR, ar_42, ln_42, rg_33_11 hR, ar_43, ln_43, rg_33_12 hR, ar_44, ln_44, rg_33_19 hR, ar_45, ln_45, rg_33_20 hR, ar_46, ln_46, rg_33_23 hR, ar_47, ln_47, rg_33_24 hR, ar_48, ln_48, rg_33_25 hR, ar_49, ln_49, rg_33_26 hR, ar_50, ln_50, rg_33_27 hR, ar_51, ln_51, rg_33_28 hR, ar_52, ln_52, rg_33_29 hR, ar_53, ln_53, rg_33_30 hR, ar_54, ln_54, rg_33_39 hR, ar_55, ln_55, rg_33_40 hR, ar_56, ln_56, rg_33_41 hR, ar_57, ln_57, rg_33_42 hR, ar_58, ln_58, rg_33_43 hR, ar_59, ln_59, rg_33_44 hR, ar_60, ln_60, rg_33_45 hR, ar_61, ln_61, rg_33_48 hR, ar_62, ln_62, rg_33_49 hR, ar_63, ln_63, rg_33_50 hR, ar_64, ln_64, rg_33_56 hR, ar_65, ln_65, rg_33_57 hR, ar_66, ln_66, rg_33_58 hR, ar_67, ln_67, rg_33_59 hR, ar_68, ln_68, rg_33_66 hR, ar_69, ln_69, rg_33_67 hR, ar_70, ln_70, rt_in_nI, Option.isSome_some, Option.getD_some, Bool.or_true, Bool.true_or]; done) | fail) only [e_X10_standsOver_0, e_X10_standsOver_1, e_X10_standsOver_4, e_X10_standsOver_5, e_X10_standsOver_6, e_X10_standsOver_8, e_X10_standsOver_10, e_X10_standsOver_13, e_X10_standsOver_14, e_X10_standsOver_15, e_X10_standsOver_18, e_X10_standsOver_19, e_X10_standsOver_20, e_X10_standsOver_21, e_X10_standsOver_24, e_X10_standsOver_25, e_X10_standsOver_26, e_X10_standsOver_27, e_X10_standsOver_30, e_X10_standsOver_31, c, if_true]
      rfl
theorem m_stands (hR : RG R a b) (hT : I 33 0 = nI T) (h16 : T ≤ 16) (hO : RoomOK T (I 34) (I 37)) {m : Int32} (hj : j < T) : Ev mX10_standsOver 0 [.ref 33, .int (nI j), .int m, .float 0] [] (71 + e, I, L, R) = some (some (.int (b01 (sov T (I 37) m 16 (low (I 37) j)))), (71 + e, I, L, R)) := by
  obtain ⟨ord, ho, -, hup⟩ := hO.2.2.2.2.2
  have hh := m_stands_l (e := e) (L := L) (v := .int (nI j)) (m := m) hR hT h16 hO ord ho hup 16 (low (I 37) j) (I 37 j) (fun hl => by
    rcases low_cases hO h16 hj with ⟨-, g2, -⟩ | ⟨g1, g2, -⟩
    · exact absurd hl g2
    · exact ⟨g2, by have := ho _ g1; omega⟩) (fun hl => by
    rcases low_cases hO h16 hj with ⟨-, -, g3⟩ | ⟨g1, -, -⟩
    · exact g3
    · exact absurd g1 hl)
  simp (disch := first | exact rt_bo_0 | exact rt_bo_1 | exact ns_float | exact ns_int | exact ns_ref | assumption | omega | (simp (disch := omega) only [ob_33, rg_33_2 hR, ar_34, ln_34, rg_33_3 hR, ar_35, ln_35, rg_33_4 hR, ar_36, ln_36, rg_33_5 hR, ar_37, ln_37, rg_33_6 hR, ar_38, ln_38, rg_33_7 hR, ar_39, ln_39, rg_33_8 hR, ar_40, ln_40, rg_33_9 hR, ar_41, ln_41, rg_33_10 hR, ar_42, ln_42, rg_33_11 hR, ar_43, ln_43, rg_33_12 hR, ar_44, ln_44, rg_33_19 hR, ar_45, ln_45, rg_33_20 hR, ar_46, ln_46, rg_33_23 hR, ar_47, ln_47, rg_33_24 hR, ar_48, ln_48, rg_33_25 hR, ar_49, ln_49, rg_33_26 hR, ar_50, ln_50, rg_33_27 hR, ar_51, ln_51, rg_33_28 hR, ar_52, ln_52, rg_33_29 hR, ar_53, ln_53, rg_33_30 hR, ar_54, ln_54, rg_33_39 hR, ar_55, ln_55, rg_33_40 hR, ar_56, ln_56, rg_33_41 hR, ar_57, ln_57, rg_33_42 hR, ar_58, ln_58, rg_33_43 hR, ar_59, ln_59, rg_33_44 hR, ar_60, ln_60, rg_33_45 hR, ar_61, ln_61, rg_33_48 hR, ar_62, ln_62, rg_33_49 hR, ar_63, ln_63, rg_33_50 hR, ar_64, ln_64, rg_33_56 hR, ar_65, ln_65, rg_33_57 hR, ar_66, ln_66, rg_33_58 hR, ar_67, ln_67, rg_33_59 hR, ar_68, ln_68, rg_33_66 hR, ar_69, ln_69, rg_33_67 hR, ar_70, ln_70, rt_in_nI, Option.isSome_some, Option.getD_some, Bool.or_true, Bool.true_or]; done) | fail) only [e_X10_standsOver_0, e_X10_standsOver_1, e_X10_standsOver_4, e_X10_standsOver_5, e_X10_standsOver_6, e_X10_standsOver_8, e_X10_standsOver_10, e_X10_standsOver_13, e_X10_standsOver_14, e_X10_standsOver_15, e_X10_standsOver_18, e_X10_standsOver_19, e_X10_standsOver_20, e_X10_standsOver_21, e_X10_standsOver_24, e_X10_standsOver_25, e_X10_standsOver_26, e_X10_standsOver_27, e_X10_standsOver_30, e_X10_standsOver_31, rg_33_5 hR, nI_cl, hh, Option.getD_some, Option.bind_some, Option.toList_some, Option.toList_none, List.cons_append, List.nil_append]
theorem x_stands_l (hR : RG R a b) (hT : I 1 5 = nI T) (h16 : T ≤ 16) (hO : RoomOK T (I 2) (I 5)) {m : Int32} {v : Value} : ∀ (f i z : Nat) (w : Int32), i + f = 16 → (z < T → w = nI z) → (¬ z < T → xout w T) → Ev mX3_standsOver 9 [.ref 1, v, .int m, .int w, .int (nI i)] [] (71 + e, I, L, R) = some (some (.int (b01 (sov T (I 5) m f z))), (71 + e, I, L, R)) := by
  have e16 : (16 : Int32) = nI 16 := rfl
  intro f
  induction f with
  | zero =>
    intro i z w hi h1 h2
    have c : 16 ≤ i := by omega
    rw [e_X3_standsOver_9]
    simp (disch := first | exact rt_bo_0 | exact rt_bo_1 | exact ns_float | exact ns_int | exact ns_ref | assumption | omega | (simp (disch := omega) only [ob_1, rg_1_0 hR, ar_2, ln_2, rg_1_1 hR, ar_3, ln_3, rg_1_2 hR, ar_4, ln_4, rg_1_3 hR, ar_5, ln_5, rg_1_4 hR, ar_6, ln_6, rt_in_nI, Option.isSome_some, Option.getD_some, Bool.or_true, Bool.true_or]; done) | fail) only [e_X3_standsOver_0, e_X3_standsOver_1, e_X3_standsOver_2, e_X3_standsOver_5, e_X3_standsOver_6, e_X3_standsOver_7, e_X3_standsOver_11, e_X3_standsOver_13, e_X3_standsOver_16, e_X3_standsOver_17, e_X3_standsOver_18, e_X3_standsOver_21, e_X3_standsOver_24, e_X3_standsOver_25, e_X3_standsOver_26, e_X3_standsOver_29, e_X3_standsOver_30, e_X3_standsOver_31, e_X3_standsOver_32, e_X3_standsOver_35, e_X3_standsOver_36, e_X3_standsOver_37, e_X3_standsOver_38, e_X3_standsOver_41, e_X3_standsOver_44, e_X3_standsOver_45, e16, q_le, c, if_true]
    rfl
  | succ f ih =>
    intro i z w hi h1 h2
    have c : ¬ 16 ≤ i := by omega
    unfold sov
    rw [e_X3_standsOver_9]
    by_cases hz : z < T
    · have := h1 hz
      subst this
      simp (disch := first | exact rt_bo_0 | exact rt_bo_1 | exact ns_float | exact ns_int | exact ns_ref | assumption | omega | (simp (disch := omega) only [ob_1, rg_1_0 hR, ar_2, ln_2, rg_1_1 hR, ar_3, ln_3, rg_1_2 hR, ar_4, ln_4, rg_1_3 hR, ar_5, ln_5, rg_1_4 hR, ar_6, ln_6, rt_in_nI, Option.isSome_some, Option.getD_some, Bool.or_true, Bool.true_or]; done) | fail) only [e_X3_standsOver_0, e_X3_standsOver_1, e_X3_standsOver_2, e_X3_standsOver_5, e_X3_standsOver_6, e_X3_standsOver_7, e_X3_standsOver_11, e_X3_standsOver_13, e_X3_standsOver_16, e_X3_standsOver_17, e_X3_standsOver_18, e_X3_standsOver_21, e_X3_standsOver_24, e_X3_standsOver_25, e_X3_standsOver_26, e_X3_standsOver_29, e_X3_standsOver_30, e_X3_standsOver_31, e_X3_standsOver_32, e_X3_standsOver_35, e_X3_standsOver_36, e_X3_standsOver_37, e_X3_standsOver_38, e_X3_standsOver_41, e_X3_standsOver_44, e_X3_standsOver_45, e16, q_le, q_s, c, x_has_in hR hT h16 hz, rg_1_3 hR, nI_cl, q_10, if_false, Option.getD_some, Option.bind_some, Option.toList_some, Option.toList_none, List.cons_append, List.nil_append]
      rw [if_pos hz]
      by_cases hm : nI z = m
      · rw [if_pos hm, if_pos hm]
        rfl
      · rw [if_neg hm, if_neg hm]
        apply ih (i + 1) _ _ (by omega)
        · intro hl
          rcases low_cases hO h16 hz with ⟨-, g2, -⟩ | ⟨g1, g2, -⟩
          · exact absurd hl g2
          · exact g2
        · intro hl
          rcases low_cases hO h16 hz with ⟨g3, -, -⟩ | ⟨g1, -, -⟩
          · exact g3
          · exact absurd g1 hl
    · simp (disch := first | exact rt_bo_0 | exact rt_bo_1 | exact ns_float | exact ns_int | exact ns_ref | assumption | omega | (simp (disch := omega) only [ob_1, rg_1_0 hR, ar_2, ln_2, rg_1_1 hR, ar_3, ln_3, rg_1_2 hR, ar_4, ln_4, rg_1_3 hR, ar_5, ln_5, rg_1_4 hR, ar_6, ln_6, rt_in_nI, Option.isSome_some, Option.getD_some, Bool.or_true, Bool.true_or]; done) | fail) only [e_X3_standsOver_0, e_X3_standsOver_1, e_X3_standsOver_2, e_X3_standsOver_5, e_X3_standsOver_6, e_X3_standsOver_7, e_X3_standsOver_11, e_X3_standsOver_13, e_X3_standsOver_16, e_X3_standsOver_17, e_X3_standsOver_18, e_X3_standsOver_21, e_X3_standsOver_24, e_X3_standsOver_25, e_X3_standsOver_26, e_X3_standsOver_29, e_X3_standsOver_30, e_X3_standsOver_31, e_X3_standsOver_32, e_X3_standsOver_35, e_X3_standsOver_36, e_X3_standsOver_37, e_X3_standsOver_38, e_X3_standsOver_41, e_X3_standsOver_44, e_X3_standsOver_45, e16, q_le, q_s, c, x_has_out hR hT h16 (h2 hz), q_00, if_true, if_false, Option.getD_some, Option.bind_some, Option.toList_some, Option.toList_none, List.cons_append, List.nil_append]
      rw [if_neg hz]
      rfl
theorem x_stands (hR : RG R a b) (hT : I 1 5 = nI T) (h16 : T ≤ 16) (hO : RoomOK T (I 2) (I 5)) {m : Int32} (hj : j < T) : Ev mX3_standsOver 0 [.ref 1, .int (nI j), .int m, .float 0, .float 0] [] (71 + e, I, L, R) = some (some (.int (b01 (sov T (I 5) m 16 (low (I 5) j)))), (71 + e, I, L, R)) := by
  have hh := x_stands_l (e := e) (L := L) (v := .int (nI j)) (m := m) hR hT h16 hO 16 0 (low (I 5) j) (I 5 j) (by omega) (fun hl => by
    rcases low_cases hO h16 hj with ⟨-, g2, -⟩ | ⟨g1, g2, -⟩
    · exact absurd hl g2
    · exact g2) (fun hl => by
    rcases low_cases hO h16 hj with ⟨g3, -, -⟩ | ⟨g1, -, -⟩
    · exact g3
    · exact absurd g1 hl)
  rw [nI_0] at hh
  simp (disch := first | exact rt_bo_0 | exact rt_bo_1 | exact ns_float | exact ns_int | exact ns_ref | assumption | omega | (simp (disch := omega) only [ob_1, rg_1_0 hR, ar_2, ln_2, rg_1_1 hR, ar_3, ln_3, rg_1_2 hR, ar_4, ln_4, rg_1_3 hR, ar_5, ln_5, rg_1_4 hR, ar_6, ln_6, rt_in_nI, Option.isSome_some, Option.getD_some, Bool.or_true, Bool.true_or]; done) | fail) only [e_X3_standsOver_0, e_X3_standsOver_1, e_X3_standsOver_2, e_X3_standsOver_5, e_X3_standsOver_6, e_X3_standsOver_7, e_X3_standsOver_11, e_X3_standsOver_13, e_X3_standsOver_16, e_X3_standsOver_17, e_X3_standsOver_18, e_X3_standsOver_21, e_X3_standsOver_24, e_X3_standsOver_25, e_X3_standsOver_26, e_X3_standsOver_29, e_X3_standsOver_30, e_X3_standsOver_31, e_X3_standsOver_32, e_X3_standsOver_35, e_X3_standsOver_36, e_X3_standsOver_37, e_X3_standsOver_38, e_X3_standsOver_41, e_X3_standsOver_44, e_X3_standsOver_45, x_place_in hR hT h16 hj, hh, Option.getD_some, Option.bind_some, Option.toList_some, Option.toList_none, List.cons_append, List.nil_append]
end P25

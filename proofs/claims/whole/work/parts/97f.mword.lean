section P59
variable {e : Nat} {I : Nat → Nat → Int32} {L : Nat → Nat → Int64} {R : Nat → Nat → Option Nat} {a b T j n N k s p en nw v : Nat} {x : Int32} {t : Nat → Nat} {ws w : List Nat} {wl : Nat → List Nat}
/-- a byte as the reference holds it -/
def sgb (v : Nat) : Int32 := (nI v).toInt8.toInt32
def ltr (v : Nat) : Bool := decide (97 ≤ v) && decide (v ≤ 122)
theorem sgb_all : ∀ v, v < 256 → (ltr v = true → sgb v = nI v) ∧ (ltr v = false → sgb v < 97 ∨ 122 < sgb v) ∧ ((sgb v = 32) ↔ v = 32) := by decide +kernel
theorem ltr_iff : ltr v = true ↔ 97 ≤ v ∧ v ≤ 122 := by unfold ltr; rw [Bool.and_eq_true, decide_eq_true_iff, decide_eq_true_iff]
/-- how the reference holds the text of n bytes -/
def TM (I : Nat → Nat → Int32) (n : Nat) (t : Nat → Nat) : Prop := n ≤ 100 ∧ I 33 14 = nI n ∧ (∀ k, k < n → I 44 k = sgb (t k)) ∧ ∀ k, k < n → t k < 256
theorem m_isL (hR : RG R a b) (hX : TM I n t) (hp : p < 1000) : Ev mX10_isLetter 0 [.ref 33, .int (nI p)] [] (71 + e, I, L, R) = some (some (.int (b01 (decide (p < n) && ltr (t p)))), (71 + e, I, L, R)) := by
  obtain ⟨x1, x2, x3, x4⟩ := hX
  by_cases h : p < n
  · have h2 : ¬ n ≤ p := by omega
    have h3 := sgb_all _ (x4 p h)
    rw [decide_eq_true h, Bool.true_and]
    cases hl : ltr (t p) with
    | true =>
      have h4 := h3.1 hl
      have h5 := ltr_iff.mp hl
      have q97 : (97 : Int32) = nI 97 := rfl
      have q122 : (122 : Int32) = nI 122 := rfl
      have h6 : ¬ t p < 97 := by omega
      have h7 : ¬ 122 < t p := by omega
      simp (disch := first | exact rt_bo_0 | exact rt_bo_1 | exact ns_float | exact ns_int | exact ns_ref | assumption | omega | (simp (disch := omega) only [ob_33, rg_33_2 hR, ar_34, ln_34, rg_33_3 hR, ar_35, ln_35, rg_33_4 hR, ar_36, ln_36, rg_33_5 hR, ar_37, ln_37, rg_33_6 hR, ar_38, ln_38, rg_33_7 hR, ar_39, ln_39, rg_33_8 hR, ar_40, ln_40, rg_33_9 hR, ar_41, ln_41, rg_33_10 hR, ar_42, ln_42, rg_33_11 hR, ar_43, ln_43, rg_33_12 hR, ar_44, ln_44, rg_33_19 hR, ar_45, ln_45, rg_33_20 hR, ar_46, ln_46, rg_33_23 hR, ar_47, ln_47, rg_33_24 hR, ar_48, ln_48, rg_33_25 hR, ar_49, ln_49, rg_33_26 hR, ar_50, ln_50, rg_33_27 hR, ar_51, ln_51, rg_33_28 hR, ar_52, ln_52, rg_33_29 hR, ar_53, ln_53, rg_33_30 hR, ar_54, ln_54, rg_33_39 hR, ar_55, ln_55, rg_33_40 hR, ar_56, ln_56, rg_33_41 hR, ar_57, ln_57, rg_33_42 hR, ar_58, ln_58, rg_33_43 hR, ar_59, ln_59, rg_33_44 hR, ar_60, ln_60, rg_33_45 hR, ar_61, ln_61, rg_33_48 hR, ar_62, ln_62, rg_33_49 hR, ar_63, ln_63, rg_33_50 hR, ar_64, ln_64, rg_33_56 hR, ar_65, ln_65, rg_33_57 hR, ar_66, ln_66, rg_33_58 hR, ar_67, ln_67, rg_33_59 hR, ar_68, ln_68, rg_33_66 hR, ar_69, ln_69, rg_33_67 hR, ar_70, ln_70, rt_in_nI, Option.isSome_some, Option.getD_some, Bool.or_true, Bool.true_or]; done) | fail) only [e_X10_isLetter_0, e_X10_isLetter_1, e_X10_isLetter_2, e_X10_isLetter_5, e_X10_isLetter_8, e_X10_isLetter_9, e_X10_isLetter_12, e_X10_isLetter_13, e_X10_isLetter_14, e_X10_isLetter_16, e_X10_isLetter_19, e_X10_isLetter_20, e_X10_isLetter_23, e_X10_isLetter_24, e_X10_isLetter_25, e_X10_isLetter_27, e_X10_isLetter_30, e_X10_isLetter_31, e_X10_isLetter_34, e_X10_isLetter_35, rg_33_12 hR, x2, x3 p h, h4, q97, q122, nI_cl, q_le, q_lt, h2, h6, h7, if_true, if_false, Option.getD_some, Option.bind_some, Option.toList_some, Option.toList_none, List.cons_append, List.nil_append]
      rfl
    | false =>
      rcases h3.2.1 hl with h4 | h4
      · simp (disch := first | exact rt_bo_0 | exact rt_bo_1 | exact ns_float | exact ns_int | exact ns_ref | assumption | omega | (simp (disch := omega) only [ob_33, rg_33_2 hR, ar_34, ln_34, rg_33_3 hR, ar_35, ln_35, rg_33_4 hR, ar_36, ln_36, rg_33_5 hR, ar_37, ln_37, rg_33_6 hR, ar_38, ln_38, rg_33_7 hR, ar_39, ln_39, rg_33_8 hR, ar_40, ln_40, rg_33_9 hR, ar_41, ln_41, rg_33_10 hR, ar_42, ln_42, rg_33_11 hR, ar_43, ln_43, rg_33_12 hR, ar_44, ln_44, rg_33_19 hR, ar_45, ln_45, rg_33_20 hR, ar_46, ln_46, rg_33_23 hR, ar_47, ln_47, rg_33_24 hR, ar_48, ln_48, rg_33_25 hR, ar_49, ln_49, rg_33_26 hR, ar_50, ln_50, rg_33_27 hR, ar_51, ln_51, rg_33_28 hR, ar_52, ln_52, rg_33_29 hR, ar_53, ln_53, rg_33_30 hR, ar_54, ln_54, rg_33_39 hR, ar_55, ln_55, rg_33_40 hR, ar_56, ln_56, rg_33_41 hR, ar_57, ln_57, rg_33_42 hR, ar_58, ln_58, rg_33_43 hR, ar_59, ln_59, rg_33_44 hR, ar_60, ln_60, rg_33_45 hR, ar_61, ln_61, rg_33_48 hR, ar_62, ln_62, rg_33_49 hR, ar_63, ln_63, rg_33_50 hR, ar_64, ln_64, rg_33_56 hR, ar_65, ln_65, rg_33_57 hR, ar_66, ln_66, rg_33_58 hR, ar_67, ln_67, rg_33_59 hR, ar_68, ln_68, rg_33_66 hR, ar_69, ln_69, rg_33_67 hR, ar_70, ln_70, rt_in_nI, Option.isSome_some, Option.getD_some, Bool.or_true, Bool.true_or]; done) | fail) only [e_X10_isLetter_0, e_X10_isLetter_1, e_X10_isLetter_2, e_X10_isLetter_5, e_X10_isLetter_8, e_X10_isLetter_9, e_X10_isLetter_12, e_X10_isLetter_13, e_X10_isLetter_14, e_X10_isLetter_16, e_X10_isLetter_19, e_X10_isLetter_20, e_X10_isLetter_23, e_X10_isLetter_24, e_X10_isLetter_25, e_X10_isLetter_27, e_X10_isLetter_30, e_X10_isLetter_31, e_X10_isLetter_34, e_X10_isLetter_35, rg_33_12 hR, x2, x3 p h, h4, nI_cl, q_le, q_lt, h2, if_true, if_false, Option.getD_some, Option.bind_some, Option.toList_some, Option.toList_none, List.cons_append, List.nil_append]
        rfl
      · have h5 : ¬ sgb (t p) < 97 := by
          intro h5
          rw [Int32.lt_iff_toInt_lt] at h4 h5
          have c1 : (122 : Int32).toInt = 122 := by decide
          have c2 : (97 : Int32).toInt = 97 := by decide
          omega
        simp (disch := first | exact rt_bo_0 | exact rt_bo_1 | exact ns_float | exact ns_int | exact ns_ref | assumption | omega | (simp (disch := omega) only [ob_33, rg_33_2 hR, ar_34, ln_34, rg_33_3 hR, ar_35, ln_35, rg_33_4 hR, ar_36, ln_36, rg_33_5 hR, ar_37, ln_37, rg_33_6 hR, ar_38, ln_38, rg_33_7 hR, ar_39, ln_39, rg_33_8 hR, ar_40, ln_40, rg_33_9 hR, ar_41, ln_41, rg_33_10 hR, ar_42, ln_42, rg_33_11 hR, ar_43, ln_43, rg_33_12 hR, ar_44, ln_44, rg_33_19 hR, ar_45, ln_45, rg_33_20 hR, ar_46, ln_46, rg_33_23 hR, ar_47, ln_47, rg_33_24 hR, ar_48, ln_48, rg_33_25 hR, ar_49, ln_49, rg_33_26 hR, ar_50, ln_50, rg_33_27 hR, ar_51, ln_51, rg_33_28 hR, ar_52, ln_52, rg_33_29 hR, ar_53, ln_53, rg_33_30 hR, ar_54, ln_54, rg_33_39 hR, ar_55, ln_55, rg_33_40 hR, ar_56, ln_56, rg_33_41 hR, ar_57, ln_57, rg_33_42 hR, ar_58, ln_58, rg_33_43 hR, ar_59, ln_59, rg_33_44 hR, ar_60, ln_60, rg_33_45 hR, ar_61, ln_61, rg_33_48 hR, ar_62, ln_62, rg_33_49 hR, ar_63, ln_63, rg_33_50 hR, ar_64, ln_64, rg_33_56 hR, ar_65, ln_65, rg_33_57 hR, ar_66, ln_66, rg_33_58 hR, ar_67, ln_67, rg_33_59 hR, ar_68, ln_68, rg_33_66 hR, ar_69, ln_69, rg_33_67 hR, ar_70, ln_70, rt_in_nI, Option.isSome_some, Option.getD_some, Bool.or_true, Bool.true_or]; done) | fail) only [e_X10_isLetter_0, e_X10_isLetter_1, e_X10_isLetter_2, e_X10_isLetter_5, e_X10_isLetter_8, e_X10_isLetter_9, e_X10_isLetter_12, e_X10_isLetter_13, e_X10_isLetter_14, e_X10_isLetter_16, e_X10_isLetter_19, e_X10_isLetter_20, e_X10_isLetter_23, e_X10_isLetter_24, e_X10_isLetter_25, e_X10_isLetter_27, e_X10_isLetter_30, e_X10_isLetter_31, e_X10_isLetter_34, e_X10_isLetter_35, rg_33_12 hR, x2, x3 p h, h4, h5, nI_cl, q_le, q_lt, h2, if_true, if_false, Option.getD_some, Option.bind_some, Option.toList_some, Option.toList_none, List.cons_append, List.nil_append]
        rfl
  · have h2 : n ≤ p := by omega
    rw [decide_eq_false h, Bool.false_and]
    simp (disch := first | exact rt_bo_0 | exact rt_bo_1 | exact ns_float | exact ns_int | exact ns_ref | assumption | omega | (simp (disch := omega) only [ob_33, rg_33_2 hR, ar_34, ln_34, rg_33_3 hR, ar_35, ln_35, rg_33_4 hR, ar_36, ln_36, rg_33_5 hR, ar_37, ln_37, rg_33_6 hR, ar_38, ln_38, rg_33_7 hR, ar_39, ln_39, rg_33_8 hR, ar_40, ln_40, rg_33_9 hR, ar_41, ln_41, rg_33_10 hR, ar_42, ln_42, rg_33_11 hR, ar_43, ln_43, rg_33_12 hR, ar_44, ln_44, rg_33_19 hR, ar_45, ln_45, rg_33_20 hR, ar_46, ln_46, rg_33_23 hR, ar_47, ln_47, rg_33_24 hR, ar_48, ln_48, rg_33_25 hR, ar_49, ln_49, rg_33_26 hR, ar_50, ln_50, rg_33_27 hR, ar_51, ln_51, rg_33_28 hR, ar_52, ln_52, rg_33_29 hR, ar_53, ln_53, rg_33_30 hR, ar_54, ln_54, rg_33_39 hR, ar_55, ln_55, rg_33_40 hR, ar_56, ln_56, rg_33_41 hR, ar_57, ln_57, rg_33_42 hR, ar_58, ln_58, rg_33_43 hR, ar_59, ln_59, rg_33_44 hR, ar_60, ln_60, rg_33_45 hR, ar_61, ln_61, rg_33_48 hR, ar_62, ln_62, rg_33_49 hR, ar_63, ln_63, rg_33_50 hR, ar_64, ln_64, rg_33_56 hR, ar_65, ln_65, rg_33_57 hR, ar_66, ln_66, rg_33_58 hR, ar_67, ln_67, rg_33_59 hR, ar_68, ln_68, rg_33_66 hR, ar_69, ln_69, rg_33_67 hR, ar_70, ln_70, rt_in_nI, Option.isSome_some, Option.getD_some, Bool.or_true, Bool.true_or]; done) | fail) only [e_X10_isLetter_0, e_X10_isLetter_1, e_X10_isLetter_2, e_X10_isLetter_5, e_X10_isLetter_8, e_X10_isLetter_9, e_X10_isLetter_12, e_X10_isLetter_13, e_X10_isLetter_14, e_X10_isLetter_16, e_X10_isLetter_19, e_X10_isLetter_20, e_X10_isLetter_23, e_X10_isLetter_24, e_X10_isLetter_25, e_X10_isLetter_27, e_X10_isLetter_30, e_X10_isLetter_31, e_X10_isLetter_34, e_X10_isLetter_35, x2, q_le, h2, if_true]
    rfl
/-- where the letters from p on end -/
def lrun (t : Nat → Nat) (n : Nat) : Nat → Nat → Nat
  | p, 0 => p
  | p, f + 1 => if (decide (p < n) && ltr (t p)) = true then lrun t n (p + 1) f else p
theorem kyN_snoc {c : Nat} : kyN (w ++ [c]) = kyN w * 27 + (c - 96) := by
  unfold kyN
  rw [List.foldl_append]
  rfl
theorem txt_snoc (h : s ≤ en) : txt t s (en + 1) = txt t s en ++ [t en] := by
  unfold txt
  rw [show en + 1 - s = (en - s) + 1 by omega, List.range_succ, List.map_append]
  simp [show s + (en - s) = en by omega]
theorem txt_nil : txt t s s = [] := by unfold txt; rw [Nat.sub_self]; rfl
/-- only the reference's scratch of a word has changed -/
def FrW (I I2 : Nat → Nat → Int32) : Prop := (∀ c, c ≠ 33 → I2 c = I c) ∧ ∀ k, k < 15 ∨ 18 < k → I2 33 k = I 33 k
def FrL (L L2 : Nat → Nat → Int64) : Prop := (∀ c, c ≠ 33 → L2 c = L c) ∧ ∀ k, k ≠ 21 → L2 33 k = L 33 k
theorem l_key {K : Nat} (h1 : 97 ≤ v) (h2 : v ≤ 122) : lN K * 27 + (nI v).toInt64 - 97 + 1 = lN (K * 27 + (v - 96)) := by
  rw [nI_l (by omega), show (27 : Int64) = lN 27 from rfl, show (97 : Int64) = lN 97 from rfl, lN_mul, lN_add, lN_sub (by omega), lN_1]
  congr 1
  omega
theorem m_rw_l (hR : RG R a b) : ∀ f j I L, p + j + f = n → TM I n t → I 33 17 = nI (p + j) → I 33 18 = nI j → (j ≤ 10 → L 33 21 = lN (kyN (txt t p (p + j)))) → ∃ I2 L2, Ev mX10_readsWord 35 [.ref 33, .int (nI p)] [] (71 + e, I, L, R) = Ev mX10_readsWord 114 [.ref 33, .int (nI p)] [] (71 + e, I2, L2, R) ∧ FrW I I2 ∧ FrL L L2 ∧ I2 33 15 = I 33 15 ∧ I2 33 16 = I 33 16 ∧ I2 33 17 = nI (lrun t n (p + j) f) ∧ I2 33 18 = nI (lrun t n (p + j) f - p) ∧ (lrun t n (p + j) f - p ≤ 10 → L2 33 21 = lN (kyN (txt t p (lrun t n (p + j) f)))) := by
  intro f
  induction f with
  | zero =>
    intro j I L hj hX h17 h18 hk
    have hl := m_isL (e := e) (L := L) (p := p + j) hR hX (by have := hX.1; omega)
    have hnn : ¬ p + j < n := by omega
    rw [decide_eq_false hnn, Bool.false_and, show b01 false = 0 from rfl] at hl
    refine ⟨I, L, ?_, ⟨fun _ _ => rfl, fun _ _ => rfl⟩, ⟨fun _ _ => rfl, fun _ _ => rfl⟩, rfl, rfl, h17, ?_, ?_⟩
    · rw [e_X10_readsWord_35]
      simp (disch := first | exact rt_bo_0 | exact rt_bo_1 | exact ns_float | exact ns_int | exact ns_ref | assumption | omega | (simp (disch := omega) only [ob_33, rg_33_2 hR, ar_34, ln_34, rg_33_3 hR, ar_35, ln_35, rg_33_4 hR, ar_36, ln_36, rg_33_5 hR, ar_37, ln_37, rg_33_6 hR, ar_38, ln_38, rg_33_7 hR, ar_39, ln_39, rg_33_8 hR, ar_40, ln_40, rg_33_9 hR, ar_41, ln_41, rg_33_10 hR, ar_42, ln_42, rg_33_11 hR, ar_43, ln_43, rg_33_12 hR, ar_44, ln_44, rg_33_19 hR, ar_45, ln_45, rg_33_20 hR, ar_46, ln_46, rg_33_23 hR, ar_47, ln_47, rg_33_24 hR, ar_48, ln_48, rg_33_25 hR, ar_49, ln_49, rg_33_26 hR, ar_50, ln_50, rg_33_27 hR, ar_51, ln_51, rg_33_28 hR, ar_52, ln_52, rg_33_29 hR, ar_53, ln_53, rg_33_30 hR, ar_54, ln_54, rg_33_39 hR, ar_55, ln_55, rg_33_40 hR, ar_56, ln_56, rg_33_41 hR, ar_57, ln_57, rg_33_42 hR, ar_58, ln_58, rg_33_43 hR, ar_59, ln_59, rg_33_44 hR, ar_60, ln_60, rg_33_45 hR, ar_61, ln_61, rg_33_48 hR, ar_62, ln_62, rg_33_49 hR, ar_63, ln_63, rg_33_50 hR, ar_64, ln_64, rg_33_56 hR, ar_65, ln_65, rg_33_57 hR, ar_66, ln_66, rg_33_58 hR, ar_67, ln_67, rg_33_59 hR, ar_68, ln_68, rg_33_66 hR, ar_69, ln_69, rg_33_67 hR, ar_70, ln_70, rt_in_nI, Option.isSome_some, Option.getD_some, Bool.or_true, Bool.true_or]; done) | fail) only [e_X10_readsWord_36, e_X10_readsWord_37, e_X10_readsWord_40, e_X10_readsWord_43, h17, hl, q_00, if_true, Option.getD_some, Option.bind_some, Option.toList_some, Option.toList_none, List.cons_append, List.nil_append]
    · rw [h18, lrun]; congr 1; omega
    · intro h; rw [lrun] at h ⊢; exact hk (by omega)
  | succ f ih =>
    intro j I L hj hX h17 h18 hk
    have hl := m_isL (e := e) (L := L) (p := p + j) hR hX (by have := hX.1; omega)
    have x1 := hX.1
    rw [lrun]
    cases hb : (decide (p + j < n) && ltr (t (p + j))) with
    | false =>
      rw [hb, show b01 false = 0 from rfl] at hl
      refine ⟨I, L, ?_, ⟨fun _ _ => rfl, fun _ _ => rfl⟩, ⟨fun _ _ => rfl, fun _ _ => rfl⟩, rfl, rfl, h17, ?_, ?_⟩
      · rw [e_X10_readsWord_35]
        simp (disch := first | exact rt_bo_0 | exact rt_bo_1 | exact ns_float | exact ns_int | exact ns_ref | assumption | omega | (simp (disch := omega) only [ob_33, rg_33_2 hR, ar_34, ln_34, rg_33_3 hR, ar_35, ln_35, rg_33_4 hR, ar_36, ln_36, rg_33_5 hR, ar_37, ln_37, rg_33_6 hR, ar_38, ln_38, rg_33_7 hR, ar_39, ln_39, rg_33_8 hR, ar_40, ln_40, rg_33_9 hR, ar_41, ln_41, rg_33_10 hR, ar_42, ln_42, rg_33_11 hR, ar_43, ln_43, rg_33_12 hR, ar_44, ln_44, rg_33_19 hR, ar_45, ln_45, rg_33_20 hR, ar_46, ln_46, rg_33_23 hR, ar_47, ln_47, rg_33_24 hR, ar_48, ln_48, rg_33_25 hR, ar_49, ln_49, rg_33_26 hR, ar_50, ln_50, rg_33_27 hR, ar_51, ln_51, rg_33_28 hR, ar_52, ln_52, rg_33_29 hR, ar_53, ln_53, rg_33_30 hR, ar_54, ln_54, rg_33_39 hR, ar_55, ln_55, rg_33_40 hR, ar_56, ln_56, rg_33_41 hR, ar_57, ln_57, rg_33_42 hR, ar_58, ln_58, rg_33_43 hR, ar_59, ln_59, rg_33_44 hR, ar_60, ln_60, rg_33_45 hR, ar_61, ln_61, rg_33_48 hR, ar_62, ln_62, rg_33_49 hR, ar_63, ln_63, rg_33_50 hR, ar_64, ln_64, rg_33_56 hR, ar_65, ln_65, rg_33_57 hR, ar_66, ln_66, rg_33_58 hR, ar_67, ln_67, rg_33_59 hR, ar_68, ln_68, rg_33_66 hR, ar_69, ln_69, rg_33_67 hR, ar_70, ln_70, rt_in_nI, Option.isSome_some, Option.getD_some, Bool.or_true, Bool.true_or]; done) | fail) only [e_X10_readsWord_36, e_X10_readsWord_37, e_X10_readsWord_40, e_X10_readsWord_43, h17, hl, q_00, if_true, Option.getD_some, Option.bind_some, Option.toList_some, Option.toList_none, List.cons_append, List.nil_append]
      · rw [h18]; congr 1; simp
      · intro h; simp only [Bool.false_eq_true, if_false] at h ⊢; exact hk (by omega)
    | true =>
      rw [hb, show b01 true = 1 from rfl] at hl
      rw [Bool.and_eq_true, decide_eq_true_iff] at hb
      obtain ⟨hb1, hb2⟩ := hb
      have hb3 := ltr_iff.mp hb2
      have h44 : I 44 (p + j) = nI (t (p + j)) := by rw [hX.2.2.1 _ hb1, (sgb_all _ (hX.2.2.2 _ hb1)).1 hb2]
      rw [if_pos rfl]
      have q12 : (12 : Int32) = nI 12 := rfl
      have key : ∃ L1, Ev mX10_readsWord 35 [.ref 33, .int (nI p)] [] (71 + e, I, L, R) = Ev mX10_readsWord 35 [.ref 33, .int (nI p)] [] (71 + e, rt_up (rt_up I 33 18 (nI (j + 1))) 33 17 (nI (p + (j + 1))), L1, R) ∧ FrL L L1 ∧ (j + 1 ≤ 10 → L1 33 21 = lN (kyN (txt t p (p + (j + 1))))) := by
        by_cases h12 : 12 ≤ j
        · refine ⟨rt_up L 33 21 (L 33 21), ?_, ⟨fun c hc => rt_up_f hc, fun k hk => rt_up_n2 hk⟩, fun h => by omega⟩
          rw [e_X10_readsWord_35]
          simp (disch := first | exact rt_bo_0 | exact rt_bo_1 | exact ns_float | exact ns_int | exact ns_ref | assumption | omega | (simp (disch := omega) only [ob_33, rg_33_2 hR, ar_34, ln_34, rg_33_3 hR, ar_35, ln_35, rg_33_4 hR, ar_36, ln_36, rg_33_5 hR, ar_37, ln_37, rg_33_6 hR, ar_38, ln_38, rg_33_7 hR, ar_39, ln_39, rg_33_8 hR, ar_40, ln_40, rg_33_9 hR, ar_41, ln_41, rg_33_10 hR, ar_42, ln_42, rg_33_11 hR, ar_43, ln_43, rg_33_12 hR, ar_44, ln_44, rg_33_19 hR, ar_45, ln_45, rg_33_20 hR, ar_46, ln_46, rg_33_23 hR, ar_47, ln_47, rg_33_24 hR, ar_48, ln_48, rg_33_25 hR, ar_49, ln_49, rg_33_26 hR, ar_50, ln_50, rg_33_27 hR, ar_51, ln_51, rg_33_28 hR, ar_52, ln_52, rg_33_29 hR, ar_53, ln_53, rg_33_30 hR, ar_54, ln_54, rg_33_39 hR, ar_55, ln_55, rg_33_40 hR, ar_56, ln_56, rg_33_41 hR, ar_57, ln_57, rg_33_42 hR, ar_58, ln_58, rg_33_43 hR, ar_59, ln_59, rg_33_44 hR, ar_60, ln_60, rg_33_45 hR, ar_61, ln_61, rg_33_48 hR, ar_62, ln_62, rg_33_49 hR, ar_63, ln_63, rg_33_50 hR, ar_64, ln_64, rg_33_56 hR, ar_65, ln_65, rg_33_57 hR, ar_66, ln_66, rg_33_58 hR, ar_67, ln_67, rg_33_59 hR, ar_68, ln_68, rg_33_66 hR, ar_69, ln_69, rg_33_67 hR, ar_70, ln_70, rt_in_nI, Option.isSome_some, Option.getD_some, Bool.or_true, Bool.true_or]; done) | fail) only [e_X10_readsWord_0, e_X10_readsWord_1, e_X10_readsWord_2, e_X10_readsWord_5, e_X10_readsWord_6, e_X10_readsWord_7, e_X10_readsWord_10, e_X10_readsWord_11, e_X10_readsWord_12, e_X10_readsWord_15, e_X10_readsWord_16, e_X10_readsWord_17, e_X10_readsWord_20, e_X10_readsWord_21, e_X10_readsWord_22, e_X10_readsWord_25, e_X10_readsWord_28, e_X10_readsWord_29, e_X10_readsWord_30, e_X10_readsWord_31, e_X10_readsWord_34, e_X10_readsWord_36, e_X10_readsWord_37, e_X10_readsWord_40, e_X10_readsWord_43, e_X10_readsWord_46, e_X10_readsWord_47, e_X10_readsWord_48, e_X10_readsWord_51, e_X10_readsWord_53, e_X10_readsWord_56, e_X10_readsWord_57, e_X10_readsWord_60, e_X10_readsWord_63, e_X10_readsWord_64, e_X10_readsWord_65, e_X10_readsWord_68, e_X10_readsWord_69, e_X10_readsWord_72, e_X10_readsWord_73, e_X10_readsWord_74, e_X10_readsWord_75, e_X10_readsWord_78, e_X10_readsWord_79, e_X10_readsWord_80, e_X10_readsWord_81, e_X10_readsWord_84, e_X10_readsWord_85, e_X10_readsWord_88, e_X10_readsWord_91, e_X10_readsWord_92, e_X10_readsWord_93, e_X10_readsWord_96, e_X10_readsWord_97, e_X10_readsWord_98, e_X10_readsWord_101, e_X10_readsWord_102, e_X10_readsWord_103, e_X10_readsWord_106, e_X10_readsWord_107, e_X10_readsWord_108, e_X10_readsWord_111, e_X10_readsWord_114, e_X10_readsWord_115, e_X10_readsWord_118, e_X10_readsWord_119, e_X10_readsWord_122, e_X10_readsWord_125, e_X10_readsWord_126, e_X10_readsWord_129, e_X10_readsWord_130, e_X10_readsWord_133, e_X10_readsWord_134, e_X10_readsWord_136, e_X10_readsWord_139, e_X10_readsWord_140, e_X10_readsWord_141, e_X10_readsWord_142, e_X10_readsWord_145, e_X10_readsWord_148, e_X10_readsWord_149, e_X10_readsWord_150, h17, h18, hl, q12, q_le, h12, q_s, q_10, rt_up_n2, rt_up_n1, rt_up_eq, if_true, if_false, Option.getD_some, Option.bind_some, Option.toList_some, Option.toList_none, List.cons_append, List.nil_append]
          rfl
        · refine ⟨rt_up L 33 21 (L 33 21 * 27 + (nI (t (p + j))).toInt64 - 97 + 1), ?_, ⟨fun c hc => rt_up_f hc, fun k hk => rt_up_n2 hk⟩, fun h => ?_⟩
          · rw [e_X10_readsWord_35]
            simp (disch := first | exact rt_bo_0 | exact rt_bo_1 | exact ns_float | exact ns_int | exact ns_ref | assumption | omega | (simp (disch := omega) only [ob_33, rg_33_2 hR, ar_34, ln_34, rg_33_3 hR, ar_35, ln_35, rg_33_4 hR, ar_36, ln_36, rg_33_5 hR, ar_37, ln_37, rg_33_6 hR, ar_38, ln_38, rg_33_7 hR, ar_39, ln_39, rg_33_8 hR, ar_40, ln_40, rg_33_9 hR, ar_41, ln_41, rg_33_10 hR, ar_42, ln_42, rg_33_11 hR, ar_43, ln_43, rg_33_12 hR, ar_44, ln_44, rg_33_19 hR, ar_45, ln_45, rg_33_20 hR, ar_46, ln_46, rg_33_23 hR, ar_47, ln_47, rg_33_24 hR, ar_48, ln_48, rg_33_25 hR, ar_49, ln_49, rg_33_26 hR, ar_50, ln_50, rg_33_27 hR, ar_51, ln_51, rg_33_28 hR, ar_52, ln_52, rg_33_29 hR, ar_53, ln_53, rg_33_30 hR, ar_54, ln_54, rg_33_39 hR, ar_55, ln_55, rg_33_40 hR, ar_56, ln_56, rg_33_41 hR, ar_57, ln_57, rg_33_42 hR, ar_58, ln_58, rg_33_43 hR, ar_59, ln_59, rg_33_44 hR, ar_60, ln_60, rg_33_45 hR, ar_61, ln_61, rg_33_48 hR, ar_62, ln_62, rg_33_49 hR, ar_63, ln_63, rg_33_50 hR, ar_64, ln_64, rg_33_56 hR, ar_65, ln_65, rg_33_57 hR, ar_66, ln_66, rg_33_58 hR, ar_67, ln_67, rg_33_59 hR, ar_68, ln_68, rg_33_66 hR, ar_69, ln_69, rg_33_67 hR, ar_70, ln_70, rt_in_nI, Option.isSome_some, Option.getD_some, Bool.or_true, Bool.true_or]; done) | fail) only [e_X10_readsWord_0, e_X10_readsWord_1, e_X10_readsWord_2, e_X10_readsWord_5, e_X10_readsWord_6, e_X10_readsWord_7, e_X10_readsWord_10, e_X10_readsWord_11, e_X10_readsWord_12, e_X10_readsWord_15, e_X10_readsWord_16, e_X10_readsWord_17, e_X10_readsWord_20, e_X10_readsWord_21, e_X10_readsWord_22, e_X10_readsWord_25, e_X10_readsWord_28, e_X10_readsWord_29, e_X10_readsWord_30, e_X10_readsWord_31, e_X10_readsWord_34, e_X10_readsWord_36, e_X10_readsWord_37, e_X10_readsWord_40, e_X10_readsWord_43, e_X10_readsWord_46, e_X10_readsWord_47, e_X10_readsWord_48, e_X10_readsWord_51, e_X10_readsWord_53, e_X10_readsWord_56, e_X10_readsWord_57, e_X10_readsWord_60, e_X10_readsWord_63, e_X10_readsWord_64, e_X10_readsWord_65, e_X10_readsWord_68, e_X10_readsWord_69, e_X10_readsWord_72, e_X10_readsWord_73, e_X10_readsWord_74, e_X10_readsWord_75, e_X10_readsWord_78, e_X10_readsWord_79, e_X10_readsWord_80, e_X10_readsWord_81, e_X10_readsWord_84, e_X10_readsWord_85, e_X10_readsWord_88, e_X10_readsWord_91, e_X10_readsWord_92, e_X10_readsWord_93, e_X10_readsWord_96, e_X10_readsWord_97, e_X10_readsWord_98, e_X10_readsWord_101, e_X10_readsWord_102, e_X10_readsWord_103, e_X10_readsWord_106, e_X10_readsWord_107, e_X10_readsWord_108, e_X10_readsWord_111, e_X10_readsWord_114, e_X10_readsWord_115, e_X10_readsWord_118, e_X10_readsWord_119, e_X10_readsWord_122, e_X10_readsWord_125, e_X10_readsWord_126, e_X10_readsWord_129, e_X10_readsWord_130, e_X10_readsWord_133, e_X10_readsWord_134, e_X10_readsWord_136, e_X10_readsWord_139, e_X10_readsWord_140, e_X10_readsWord_141, e_X10_readsWord_142, e_X10_readsWord_145, e_X10_readsWord_148, e_X10_readsWord_149, e_X10_readsWord_150, rg_33_12 hR, nI_cl, h44, h17, h18, hl, q12, q_le, h12, q_s, q_10, rt_up_n2, rt_up_n1, rt_up_eq, if_true, if_false, Option.getD_some, Option.bind_some, Option.toList_some, Option.toList_none, List.cons_append, List.nil_append]
            rfl
          · rw [rt_up_eq, hk (by omega), l_key hb3.1 hb3.2, ← Nat.add_assoc, txt_snoc (by omega), kyN_snoc]
      obtain ⟨L1, k1, k2, k3⟩ := key
      have hX2 : TM (rt_up (rt_up I 33 18 (nI (j + 1))) 33 17 (nI (p + (j + 1)))) n t := by
        obtain ⟨y1, y2, y3, y4⟩ := hX
        refine ⟨y1, ?_, fun k hk => ?_, y4⟩
        · rw [rt_up_n2 (by decide), rt_up_n2 (by decide), y2]
        · rw [rt_up_n1 (by decide), rt_up_n1 (by decide), y3 k hk]
      obtain ⟨I2, L2, g1, g2, g3, g4, g5, g6, g7, g8⟩ := ih (j + 1) _ L1 (by omega) hX2 rt_up_eq (by rw [rt_up_n2 (by decide), rt_up_eq]) k3
      rw [← Nat.add_assoc] at g6 g7 g8
      refine ⟨I2, L2, by rw [k1, g1], ⟨fun c hc => ?_, fun k hk => ?_⟩, ⟨fun c hc => ?_, fun k hk => ?_⟩, ?_, ?_, g6, g7, g8⟩
      · rw [g2.1 c hc, rt_up_f hc, rt_up_f hc]
      · rw [g2.2 k hk, rt_up_n2 (by omega), rt_up_n2 (by omega)]
      · rw [g3.1 c hc, k2.1 c hc]
      · rw [g3.2 k hk, k2.2 k hk]
      · rw [g4, rt_up_n2 (by decide), rt_up_n2 (by decide)]
      · rw [g5, rt_up_n2 (by decide), rt_up_n2 (by decide)]
end P59

section P58
variable {e : Nat} {I : Nat → Nat → Int32} {L : Nat → Nat → Int64} {R : Nat → Nat → Option Nat} {a b T j n k s en nw : Nat} {x : Int32} {t : Nat → Nat} {ws w : List Nat} {wl : Nat → List Nat}
theorem q_sub {a b : Nat} (h : b ≤ a) : nI a - nI b = nI (a - b) := by
  have h1 : nI (a - b) + nI b = nI a := by rw [nI_add, show a - b + b = a by omega]
  rw [← h1, Int32.add_sub_cancel]
/-- how the class holds its told words -/
def WX (I : Nat → Nat → Int32) (nw : Nat) (wl : Nat → List Nat) : Prop :=
  nw ≤ 8 ∧ I 9 5 = nI nw ∧ ∀ k, k < nw → okW (wl k) ∧ I 11 k = nI (wl k).length ∧ ∀ i c, (wl k)[i]? = some c → I 10 (10 * k + i) = nI c
/-- how the class holds the tape -/
def TX (I : Nat → Nat → Int32) (n : Nat) (t : Nat → Nat) : Prop := n ≤ 200 ∧ I 7 1 = nI n ∧ (∀ k, k < n → I 8 k = nI (t k)) ∧ ∀ k, k < n → t k < 256
def tsm (w ws : List Nat) : Nat → Nat → Bool
  | _, 0 => true
  | i, f + 1 => decide (w[i]? = ws[i]?) && tsm w ws (i + 1) f
theorem tsm_iff : ∀ {f i : Nat}, tsm w ws i f = true ↔ ∀ j, i ≤ j → j < i + f → w[j]? = ws[j]? := by
  intro f
  induction f with
  | zero => intro i; exact ⟨fun _ j h1 h2 => absurd h2 (by omega), fun _ => rfl⟩
  | succ f ih =>
    intro i
    rw [tsm, Bool.and_eq_true, ih, decide_eq_true_iff]
    constructor
    · rintro ⟨h1, h2⟩ j g1 g2
      by_cases h : j = i
      · rw [h]; exact h1
      · exact h2 j (by omega) (by omega)
    · intro h
      exact ⟨h i (by omega) (by omega), fun j g1 g2 => h j (by omega) (by omega)⟩
theorem tsm_all (hl : w.length = ws.length) : tsm w ws 0 w.length = decide (w = ws) := by
  rw [Bool.eq_iff_iff, tsm_iff, decide_eq_true_iff]
  constructor
  · intro h
    apply List.ext_getElem?
    intro j
    by_cases hj : j < w.length
    · exact h j (by omega) (by omega)
    · rw [List.getElem?_eq_none (by omega), List.getElem?_eq_none (by omega)]
  · rintro rfl j _ _
    rfl
theorem x_isTold_l (hR : RG R a b) (hX : TX I n t) (hW : WX I nw wl) (hk : k < nw) (hse : s ≤ en) (hen : en ≤ n) (hl : (wl k).length = en - s) : ∀ f i, i + f = (wl k).length → Ev mX8_isTold 30 [.ref 9, .int (nI k), .ref 7, .int (nI s), .int (nI en), .int (nI i)] [] (71 + e, I, L, R) = some (some (.int (b01 (tsm (wl k) (txt t s en) i f))), (71 + e, I, L, R)) := by
  obtain ⟨x1, x2, x3, x4⟩ := hX
  obtain ⟨w1, w2, w3⟩ := hW
  obtain ⟨⟨k1, k2, k3⟩, k4, k5⟩ := w3 k hk
  have q10 : (10 : Int32) = nI 10 := rfl
  have qm : nI k * nI 10 = nI (10 * k) := by rw [pk_mul, Nat.mul_comm]
  intro f
  induction f with
  | zero =>
    intro i hi
    have hi2 : (wl k).length ≤ i := by omega
    rw [e_X8_isTold_30]
    simp (disch := first | exact rt_bo_0 | exact rt_bo_1 | exact ns_float | exact ns_int | exact ns_ref | assumption | omega | (simp (disch := omega) only [ob_9, rg_9_0 hR, ar_10, ln_10, rg_9_1 hR, ar_11, ln_11, rg_9_2 hR, ar_12, ln_12, rg_9_3 hR, ar_13, ln_13, rg_9_4 hR, ar_14, ln_14, rt_in_nI, Option.isSome_some, Option.getD_some, Bool.or_true, Bool.true_or]; done) | fail) only [e_X8_isTold_0, e_X8_isTold_1, e_X8_isTold_4, e_X8_isTold_5, e_X8_isTold_6, e_X8_isTold_9, e_X8_isTold_12, e_X8_isTold_13, e_X8_isTold_16, e_X8_isTold_17, e_X8_isTold_18, e_X8_isTold_20, e_X8_isTold_21, e_X8_isTold_22, e_X8_isTold_25, e_X8_isTold_26, e_X8_isTold_27, e_X8_isTold_28, e_X8_isTold_32, e_X8_isTold_33, e_X8_isTold_36, e_X8_isTold_37, e_X8_isTold_38, e_X8_isTold_41, e_X8_isTold_43, e_X8_isTold_45, e_X8_isTold_48, e_X8_isTold_49, e_X8_isTold_52, e_X8_isTold_53, e_X8_isTold_55, e_X8_isTold_56, e_X8_isTold_58, e_X8_isTold_59, e_X8_isTold_60, e_X8_isTold_61, e_X8_isTold_62, e_X8_isTold_64, e_X8_isTold_65, e_X8_isTold_68, e_X8_isTold_71, e_X8_isTold_72, e_X8_isTold_73, e_X8_isTold_76, e_X8_isTold_79, e_X8_isTold_80, rg_9_1 hR, nI_cl, k4, q_le, hi2, if_true, tsm, Option.getD_some, Option.bind_some, Option.toList_some, Option.toList_none, List.cons_append, List.nil_append]
    rfl
  | succ f ih =>
    intro i hi
    have hi2 : ¬ (wl k).length ≤ i := by omega
    have hi3 : ¬ 10 ≤ i := by omega
    have hi4 : s + i < n := by omega
    have hb := x4 _ hi4
    have hw : (wl k)[i]? = some ((wl k)[i]'(by omega)) := List.getElem?_eq_getElem (by omega)
    have hc := k3 _ (List.getElem_mem (show i < (wl k).length by omega))
    have h5 := k5 i _ hw
    have hg : (txt t s en)[i]? = some (t (s + i)) := by rw [txt_get, if_pos (by omega)]
    have hih := ih (i + 1) (by omega)
    rw [tsm, hw, hg]
    generalize (wl k)[i]'(by omega) = c at *
    rw [e_X8_isTold_30]
    by_cases hq : c = t (s + i)
    · rw [decide_eq_true (by rw [hq]), Bool.true_and]
      simp (disch := first | exact rt_bo_0 | exact rt_bo_1 | exact ns_float | exact ns_int | exact ns_ref | assumption | omega | (simp (disch := omega) only [ob_9, rg_9_0 hR, ar_10, ln_10, rg_9_1 hR, ar_11, ln_11, rg_9_2 hR, ar_12, ln_12, rg_9_3 hR, ar_13, ln_13, rg_9_4 hR, ar_14, ln_14, ob_7, rg_7_0 hR, ar_8, ln_8, q_10, rt_in_nI, Option.isSome_some, Option.getD_some, Bool.or_true, Bool.true_or]; done) | fail) only [e_X8_isTold_0, e_X8_isTold_1, e_X8_isTold_4, e_X8_isTold_5, e_X8_isTold_6, e_X8_isTold_9, e_X8_isTold_12, e_X8_isTold_13, e_X8_isTold_16, e_X8_isTold_17, e_X8_isTold_18, e_X8_isTold_20, e_X8_isTold_21, e_X8_isTold_22, e_X8_isTold_25, e_X8_isTold_26, e_X8_isTold_27, e_X8_isTold_28, e_X8_isTold_32, e_X8_isTold_33, e_X8_isTold_36, e_X8_isTold_37, e_X8_isTold_38, e_X8_isTold_41, e_X8_isTold_43, e_X8_isTold_45, e_X8_isTold_48, e_X8_isTold_49, e_X8_isTold_52, e_X8_isTold_53, e_X8_isTold_55, e_X8_isTold_56, e_X8_isTold_58, e_X8_isTold_59, e_X8_isTold_60, e_X8_isTold_61, e_X8_isTold_62, e_X8_isTold_64, e_X8_isTold_65, e_X8_isTold_68, e_X8_isTold_71, e_X8_isTold_72, e_X8_isTold_73, e_X8_isTold_76, e_X8_isTold_79, e_X8_isTold_80, rg_9_1 hR, rg_9_0 hR, nI_cl, k4, q10, qm, nI_add, q_le, q_s, hi2, hi3, h5, x3 _ hi4, x_byte hR x2 x1 hi4, q_eq, hq, if_true, if_false, Option.getD_some, Option.bind_some, Option.toList_some, Option.toList_none, List.cons_append, List.nil_append, hih]
    · rw [decide_eq_false (by rw [Option.some.injEq]; exact hq), Bool.false_and]
      simp (disch := first | exact rt_bo_0 | exact rt_bo_1 | exact ns_float | exact ns_int | exact ns_ref | assumption | omega | (simp (disch := omega) only [ob_9, rg_9_0 hR, ar_10, ln_10, rg_9_1 hR, ar_11, ln_11, rg_9_2 hR, ar_12, ln_12, rg_9_3 hR, ar_13, ln_13, rg_9_4 hR, ar_14, ln_14, ob_7, rg_7_0 hR, ar_8, ln_8, q_10, rt_in_nI, Option.isSome_some, Option.getD_some, Bool.or_true, Bool.true_or]; done) | fail) only [e_X8_isTold_0, e_X8_isTold_1, e_X8_isTold_4, e_X8_isTold_5, e_X8_isTold_6, e_X8_isTold_9, e_X8_isTold_12, e_X8_isTold_13, e_X8_isTold_16, e_X8_isTold_17, e_X8_isTold_18, e_X8_isTold_20, e_X8_isTold_21, e_X8_isTold_22, e_X8_isTold_25, e_X8_isTold_26, e_X8_isTold_27, e_X8_isTold_28, e_X8_isTold_32, e_X8_isTold_33, e_X8_isTold_36, e_X8_isTold_37, e_X8_isTold_38, e_X8_isTold_41, e_X8_isTold_43, e_X8_isTold_45, e_X8_isTold_48, e_X8_isTold_49, e_X8_isTold_52, e_X8_isTold_53, e_X8_isTold_55, e_X8_isTold_56, e_X8_isTold_58, e_X8_isTold_59, e_X8_isTold_60, e_X8_isTold_61, e_X8_isTold_62, e_X8_isTold_64, e_X8_isTold_65, e_X8_isTold_68, e_X8_isTold_71, e_X8_isTold_72, e_X8_isTold_73, e_X8_isTold_76, e_X8_isTold_79, e_X8_isTold_80, rg_9_1 hR, rg_9_0 hR, nI_cl, k4, q10, qm, nI_add, q_le, q_s, hi2, hi3, h5, x3 _ hi4, x_byte hR x2 x1 hi4, q_eq, hq, if_true, if_false, Option.getD_some, Option.bind_some, Option.toList_some, Option.toList_none, List.cons_append, List.nil_append]
      rfl
theorem x_isTold (hR : RG R a b) (hX : TX I n t) (hW : WX I nw wl) (hk : k < nw) (hse : s ≤ en) (hen : en ≤ n) : Ev mX8_isTold 0 [.ref 9, .int (nI k), .ref 7, .int (nI s), .int (nI en), .float 0] [] (71 + e, I, L, R) = some (some (.int (b01 (decide (wl k = txt t s en)))), (71 + e, I, L, R)) := by
  have hll := x_isTold_l (e := e) (L := L) hR hX hW hk hse hen
  obtain ⟨x1, x2, x3, x4⟩ := hX
  obtain ⟨w1, w2, w3⟩ := hW
  obtain ⟨⟨k1, k2, k3⟩, k4, k5⟩ := w3 k hk
  have hk2 : ¬ nw ≤ k := by omega
  by_cases hl : (wl k).length = en - s
  · have h := hll hl _ 0 (Nat.zero_add _)
    rw [tsm_all (by rw [txt_len]; exact hl), nI_0] at h
    simp (disch := first | exact rt_bo_0 | exact rt_bo_1 | exact ns_float | exact ns_int | exact ns_ref | assumption | omega | (simp (disch := omega) only [ob_9, rg_9_0 hR, ar_10, ln_10, rg_9_1 hR, ar_11, ln_11, rg_9_2 hR, ar_12, ln_12, rg_9_3 hR, ar_13, ln_13, rg_9_4 hR, ar_14, ln_14, ob_7, rg_7_0 hR, ar_8, ln_8, q_10, rt_in_nI, Option.isSome_some, Option.getD_some, Bool.or_true, Bool.true_or]; done) | fail) only [e_X8_isTold_0, e_X8_isTold_1, e_X8_isTold_4, e_X8_isTold_5, e_X8_isTold_6, e_X8_isTold_9, e_X8_isTold_12, e_X8_isTold_13, e_X8_isTold_16, e_X8_isTold_17, e_X8_isTold_18, e_X8_isTold_20, e_X8_isTold_21, e_X8_isTold_22, e_X8_isTold_25, e_X8_isTold_26, e_X8_isTold_27, e_X8_isTold_28, e_X8_isTold_32, e_X8_isTold_33, e_X8_isTold_36, e_X8_isTold_37, e_X8_isTold_38, e_X8_isTold_41, e_X8_isTold_43, e_X8_isTold_45, e_X8_isTold_48, e_X8_isTold_49, e_X8_isTold_52, e_X8_isTold_53, e_X8_isTold_55, e_X8_isTold_56, e_X8_isTold_58, e_X8_isTold_59, e_X8_isTold_60, e_X8_isTold_61, e_X8_isTold_62, e_X8_isTold_64, e_X8_isTold_65, e_X8_isTold_68, e_X8_isTold_71, e_X8_isTold_72, e_X8_isTold_73, e_X8_isTold_76, e_X8_isTold_79, e_X8_isTold_80, rg_9_1 hR, w2, nI_cl, k4, q_l0, q_le, q_eq, q_sub hse, hk2, hl, if_true, if_false, h, Option.getD_some, Option.bind_some, Option.toList_some, Option.toList_none, List.cons_append, List.nil_append]
  · have hne : ¬ wl k = txt t s en := fun h => hl (by rw [h, txt_len])
    rw [decide_eq_false hne]
    simp (disch := first | exact rt_bo_0 | exact rt_bo_1 | exact ns_float | exact ns_int | exact ns_ref | assumption | omega | (simp (disch := omega) only [ob_9, rg_9_0 hR, ar_10, ln_10, rg_9_1 hR, ar_11, ln_11, rg_9_2 hR, ar_12, ln_12, rg_9_3 hR, ar_13, ln_13, rg_9_4 hR, ar_14, ln_14, ob_7, rg_7_0 hR, ar_8, ln_8, q_10, rt_in_nI, Option.isSome_some, Option.getD_some, Bool.or_true, Bool.true_or]; done) | fail) only [e_X8_isTold_0, e_X8_isTold_1, e_X8_isTold_4, e_X8_isTold_5, e_X8_isTold_6, e_X8_isTold_9, e_X8_isTold_12, e_X8_isTold_13, e_X8_isTold_16, e_X8_isTold_17, e_X8_isTold_18, e_X8_isTold_20, e_X8_isTold_21, e_X8_isTold_22, e_X8_isTold_25, e_X8_isTold_26, e_X8_isTold_27, e_X8_isTold_28, e_X8_isTold_32, e_X8_isTold_33, e_X8_isTold_36, e_X8_isTold_37, e_X8_isTold_38, e_X8_isTold_41, e_X8_isTold_43, e_X8_isTold_45, e_X8_isTold_48, e_X8_isTold_49, e_X8_isTold_52, e_X8_isTold_53, e_X8_isTold_55, e_X8_isTold_56, e_X8_isTold_58, e_X8_isTold_59, e_X8_isTold_60, e_X8_isTold_61, e_X8_isTold_62, e_X8_isTold_64, e_X8_isTold_65, e_X8_isTold_68, e_X8_isTold_71, e_X8_isTold_72, e_X8_isTold_73, e_X8_isTold_76, e_X8_isTold_79, e_X8_isTold_80, rg_9_1 hR, w2, nI_cl, k4, q_l0, q_le, q_eq, q_sub hse, hk2, hl, if_true, if_false, Option.getD_some, Option.bind_some, Option.toList_some, Option.toList_none, List.cons_append, List.nil_append]
    rfl
/-- the first told word that is it -/
def tix (wl : Nat → List Nat) (ws : List Nat) : Nat → Nat → Option Nat
  | _, 0 => none
  | k, f + 1 => if wl k = ws then some (29 + k) else tix wl ws (k + 1) f
def fnd (wl : Nat → List Nat) (nw : Nat) (ws : List Nat) : Option Nat := match ixw ws 0 bW with
  | some c => some c
  | none => tix wl ws 0 nw
theorem x_find_l (hR : RG R a b) (hX : TX I n t) (hW : WX I nw wl) (hse : s ≤ en) (hen : en ≤ n) : ∀ f k, k + f = nw → Ev mX8_find 11 [.ref 9, .ref 7, .int (nI s), .int (nI en), .int (-1), .int (nI k)] [] (71 + e, I, L, R) = some (some (.int (oX (tix wl (txt t s en) k f))), (71 + e, I, L, R)) := by
  have w1 := hW.1
  have w2 := hW.2.1
  have q29 : (29 : Int32) = nI 29 := rfl
  intro f
  induction f with
  | zero =>
    intro k hk
    have hk2 : nw ≤ k := by omega
    rw [e_X8_find_11]
    simp (disch := first | exact rt_bo_0 | exact rt_bo_1 | exact ns_float | exact ns_int | exact ns_ref | assumption | omega | (simp (disch := omega) only [ob_9, rg_9_0 hR, ar_10, ln_10, rg_9_1 hR, ar_11, ln_11, rg_9_2 hR, ar_12, ln_12, rg_9_3 hR, ar_13, ln_13, rg_9_4 hR, ar_14, ln_14, ob_7, rg_7_0 hR, ar_8, ln_8, q_10, rt_in_nI, Option.isSome_some, Option.getD_some, Bool.or_true, Bool.true_or]; done) | fail) only [e_X8_find_0, e_X8_find_1, e_X8_find_2, e_X8_find_3, e_X8_find_6, e_X8_find_8, e_X8_find_9, e_X8_find_13, e_X8_find_14, e_X8_find_17, e_X8_find_20, e_X8_find_22, e_X8_find_23, e_X8_find_26, e_X8_find_27, e_X8_find_29, e_X8_find_30, e_X8_find_31, e_X8_find_32, e_X8_find_35, e_X8_find_38, e_X8_find_40, e_X8_find_42, e_X8_find_43, e_X8_find_45, e_X8_find_48, e_X8_find_51, e_X8_find_53, w2, q_le, hk2, if_true, tix, oX]
  | succ f ih =>
    intro k hk
    have hk2 : ¬ nw ≤ k := by omega
    have hx := x_isTold (e := e) (L := L) hR hX hW (show k < nw by omega) hse hen
    have hih := ih (k + 1) (by omega)
    rw [tix]
    rw [e_X8_find_11]
    by_cases hq : wl k = txt t s en
    · rw [decide_eq_true hq] at hx
      rw [if_pos hq]
      have hb1 : b01 true = 1 := rfl
      rw [hb1] at hx
      simp (disch := first | exact rt_bo_0 | exact rt_bo_1 | exact ns_float | exact ns_int | exact ns_ref | assumption | omega | (simp (disch := omega) only [ob_9, rg_9_0 hR, ar_10, ln_10, rg_9_1 hR, ar_11, ln_11, rg_9_2 hR, ar_12, ln_12, rg_9_3 hR, ar_13, ln_13, rg_9_4 hR, ar_14, ln_14, ob_7, rg_7_0 hR, ar_8, ln_8, q_10, rt_in_nI, Option.isSome_some, Option.getD_some, Bool.or_true, Bool.true_or]; done) | fail) only [e_X8_find_0, e_X8_find_1, e_X8_find_2, e_X8_find_3, e_X8_find_6, e_X8_find_8, e_X8_find_9, e_X8_find_13, e_X8_find_14, e_X8_find_17, e_X8_find_20, e_X8_find_22, e_X8_find_23, e_X8_find_26, e_X8_find_27, e_X8_find_29, e_X8_find_30, e_X8_find_31, e_X8_find_32, e_X8_find_35, e_X8_find_38, e_X8_find_40, e_X8_find_42, e_X8_find_43, e_X8_find_45, e_X8_find_48, e_X8_find_51, e_X8_find_53, w2, q_le, hk2, hx, q29, nI_add, q_s, q_10, if_true, if_false, Option.getD_some, Option.bind_some, Option.toList_some, Option.toList_none, List.cons_append, List.nil_append]
      rw [e_X8_find_11]
      by_cases hk3 : nw ≤ k + 1
      · simp (disch := first | exact rt_bo_0 | exact rt_bo_1 | exact ns_float | exact ns_int | exact ns_ref | assumption | omega | (simp (disch := omega) only [ob_9, rg_9_0 hR, ar_10, ln_10, rg_9_1 hR, ar_11, ln_11, rg_9_2 hR, ar_12, ln_12, rg_9_3 hR, ar_13, ln_13, rg_9_4 hR, ar_14, ln_14, ob_7, rg_7_0 hR, ar_8, ln_8, q_10, rt_in_nI, Option.isSome_some, Option.getD_some, Bool.or_true, Bool.true_or]; done) | fail) only [e_X8_find_0, e_X8_find_1, e_X8_find_2, e_X8_find_3, e_X8_find_6, e_X8_find_8, e_X8_find_9, e_X8_find_13, e_X8_find_14, e_X8_find_17, e_X8_find_20, e_X8_find_22, e_X8_find_23, e_X8_find_26, e_X8_find_27, e_X8_find_29, e_X8_find_30, e_X8_find_31, e_X8_find_32, e_X8_find_35, e_X8_find_38, e_X8_find_40, e_X8_find_42, e_X8_find_43, e_X8_find_45, e_X8_find_48, e_X8_find_51, e_X8_find_53, w2, q_le, hk3, if_true, oX]
      · simp (disch := first | exact rt_bo_0 | exact rt_bo_1 | exact ns_float | exact ns_int | exact ns_ref | assumption | omega | (simp (disch := omega) only [ob_9, rg_9_0 hR, ar_10, ln_10, rg_9_1 hR, ar_11, ln_11, rg_9_2 hR, ar_12, ln_12, rg_9_3 hR, ar_13, ln_13, rg_9_4 hR, ar_14, ln_14, ob_7, rg_7_0 hR, ar_8, ln_8, q_10, rt_in_nI, Option.isSome_some, Option.getD_some, Bool.or_true, Bool.true_or]; done) | fail) only [e_X8_find_0, e_X8_find_1, e_X8_find_2, e_X8_find_3, e_X8_find_6, e_X8_find_8, e_X8_find_9, e_X8_find_13, e_X8_find_14, e_X8_find_17, e_X8_find_20, e_X8_find_22, e_X8_find_23, e_X8_find_26, e_X8_find_27, e_X8_find_29, e_X8_find_30, e_X8_find_31, e_X8_find_32, e_X8_find_35, e_X8_find_38, e_X8_find_40, e_X8_find_42, e_X8_find_43, e_X8_find_45, e_X8_find_48, e_X8_find_51, e_X8_find_53, w2, q_le, q_e1, hk3, if_true, if_false, oX]
    · rw [decide_eq_false hq] at hx
      rw [if_neg hq]
      have hb0 : b01 false = 0 := rfl
      rw [hb0] at hx
      simp (disch := first | exact rt_bo_0 | exact rt_bo_1 | exact ns_float | exact ns_int | exact ns_ref | assumption | omega | (simp (disch := omega) only [ob_9, rg_9_0 hR, ar_10, ln_10, rg_9_1 hR, ar_11, ln_11, rg_9_2 hR, ar_12, ln_12, rg_9_3 hR, ar_13, ln_13, rg_9_4 hR, ar_14, ln_14, ob_7, rg_7_0 hR, ar_8, ln_8, q_10, rt_in_nI, Option.isSome_some, Option.getD_some, Bool.or_true, Bool.true_or]; done) | fail) only [e_X8_find_0, e_X8_find_1, e_X8_find_2, e_X8_find_3, e_X8_find_6, e_X8_find_8, e_X8_find_9, e_X8_find_13, e_X8_find_14, e_X8_find_17, e_X8_find_20, e_X8_find_22, e_X8_find_23, e_X8_find_26, e_X8_find_27, e_X8_find_29, e_X8_find_30, e_X8_find_31, e_X8_find_32, e_X8_find_35, e_X8_find_38, e_X8_find_40, e_X8_find_42, e_X8_find_43, e_X8_find_45, e_X8_find_48, e_X8_find_51, e_X8_find_53, w2, q_le, hk2, hx, q_s, q_00, if_true, if_false, Option.getD_some, Option.bind_some, Option.toList_some, Option.toList_none, List.cons_append, List.nil_append, hih]
theorem ixw_ge : ∀ {l : List (List Nat)} {k c : Nat}, ixw ws k l = some c → k ≤ c ∧ c < k + l.length ∧ l[c - k]? = some ws := by
  intro l
  induction l with
  | nil => intro k c h; cases h
  | cons v l ih =>
    intro k c h
    rw [ixw] at h
    by_cases hv : v = ws
    · rw [if_pos hv, Option.some.injEq] at h
      subst h
      rw [List.length_cons]
      refine ⟨by omega, by omega, ?_⟩
      rw [Nat.sub_self, List.getElem?_cons_zero, hv]
    · rw [if_neg hv] at h
      obtain ⟨h1, h2, h3⟩ := ih h
      rw [List.length_cons]
      refine ⟨by omega, by omega, ?_⟩
      rw [show c - k = (c - (k + 1)) + 1 by omega, List.getElem?_cons_succ]
      exact h3
theorem bW_len : bW.length = 29 := by decide +kernel
theorem x_find (hR : RG R a b) (hX : TX I n t) (hW : WX I nw wl) (hse : s ≤ en) (hen : en ≤ n) : Ev mX8_find 0 [.ref 9, .ref 7, .int (nI s), .int (nI en), .float 0, .float 0] [] (71 + e, I, L, R) = some (some (.int (oX (fnd wl nw (txt t s en)))), (71 + e, I, L, R)) := by
  have hfb := x_fb (e := e) (L := L) hR hX.2.1 hX.1 hX.2.2.1 hX.2.2.2 hse hen
  have hl := x_find_l (e := e) (L := L) hR hX hW hse hen nw 0 (by omega)
  have w1 := hW.1
  have w2 := hW.2.1
  rw [nI_0] at hl
  unfold fnd
  cases hc : ixw (txt t s en) 0 bW with
  | none =>
    rw [hc] at hfb
    simp (disch := first | exact rt_bo_0 | exact rt_bo_1 | exact ns_float | exact ns_int | exact ns_ref | assumption | omega | (simp (disch := omega) only [ob_9, rg_9_0 hR, ar_10, ln_10, rg_9_1 hR, ar_11, ln_11, rg_9_2 hR, ar_12, ln_12, rg_9_3 hR, ar_13, ln_13, rg_9_4 hR, ar_14, ln_14, ob_7, rg_7_0 hR, ar_8, ln_8, q_10, rt_in_nI, Option.isSome_some, Option.getD_some, Bool.or_true, Bool.true_or]; done) | fail) only [e_X8_find_0, e_X8_find_1, e_X8_find_2, e_X8_find_3, e_X8_find_6, e_X8_find_8, e_X8_find_9, e_X8_find_13, e_X8_find_14, e_X8_find_17, e_X8_find_20, e_X8_find_22, e_X8_find_23, e_X8_find_26, e_X8_find_27, e_X8_find_29, e_X8_find_30, e_X8_find_31, e_X8_find_32, e_X8_find_35, e_X8_find_38, e_X8_find_40, e_X8_find_42, e_X8_find_43, e_X8_find_45, e_X8_find_48, e_X8_find_51, e_X8_find_53, hfb, oX, hl, Option.getD_some, Option.bind_some, Option.toList_some, Option.toList_none, List.cons_append, List.nil_append]
  | some c =>
    have hc2 := (ixw_ge hc).2.1
    rw [bW_len] at hc2
    rw [hc] at hfb
    have z0 : (0 : Int32) = nI 0 := rfl
    simp (disch := first | exact rt_bo_0 | exact rt_bo_1 | exact ns_float | exact ns_int | exact ns_ref | assumption | omega | (simp (disch := omega) only [ob_9, rg_9_0 hR, ar_10, ln_10, rg_9_1 hR, ar_11, ln_11, rg_9_2 hR, ar_12, ln_12, rg_9_3 hR, ar_13, ln_13, rg_9_4 hR, ar_14, ln_14, ob_7, rg_7_0 hR, ar_8, ln_8, q_10, rt_in_nI, Option.isSome_some, Option.getD_some, Bool.or_true, Bool.true_or]; done) | fail) only [e_X8_find_0, e_X8_find_1, e_X8_find_2, e_X8_find_3, e_X8_find_6, e_X8_find_8, e_X8_find_9, e_X8_find_13, e_X8_find_14, e_X8_find_17, e_X8_find_20, e_X8_find_22, e_X8_find_23, e_X8_find_26, e_X8_find_27, e_X8_find_29, e_X8_find_30, e_X8_find_31, e_X8_find_32, e_X8_find_35, e_X8_find_38, e_X8_find_40, e_X8_find_42, e_X8_find_43, e_X8_find_45, e_X8_find_48, e_X8_find_51, e_X8_find_53, hfb, oX, Option.getD_some, Option.bind_some, Option.toList_some, Option.toList_none, List.cons_append, List.nil_append]
    rw [e_X8_find_11, z0]
    by_cases hk : nw ≤ 0
    · simp (disch := first | exact rt_bo_0 | exact rt_bo_1 | exact ns_float | exact ns_int | exact ns_ref | assumption | omega | (simp (disch := omega) only [ob_9, rg_9_0 hR, ar_10, ln_10, rg_9_1 hR, ar_11, ln_11, rg_9_2 hR, ar_12, ln_12, rg_9_3 hR, ar_13, ln_13, rg_9_4 hR, ar_14, ln_14, ob_7, rg_7_0 hR, ar_8, ln_8, q_10, rt_in_nI, Option.isSome_some, Option.getD_some, Bool.or_true, Bool.true_or]; done) | fail) only [e_X8_find_0, e_X8_find_1, e_X8_find_2, e_X8_find_3, e_X8_find_6, e_X8_find_8, e_X8_find_9, e_X8_find_13, e_X8_find_14, e_X8_find_17, e_X8_find_20, e_X8_find_22, e_X8_find_23, e_X8_find_26, e_X8_find_27, e_X8_find_29, e_X8_find_30, e_X8_find_31, e_X8_find_32, e_X8_find_35, e_X8_find_38, e_X8_find_40, e_X8_find_42, e_X8_find_43, e_X8_find_45, e_X8_find_48, e_X8_find_51, e_X8_find_53, w2, q_le, hk, if_true]
    · simp (disch := first | exact rt_bo_0 | exact rt_bo_1 | exact ns_float | exact ns_int | exact ns_ref | assumption | omega | (simp (disch := omega) only [ob_9, rg_9_0 hR, ar_10, ln_10, rg_9_1 hR, ar_11, ln_11, rg_9_2 hR, ar_12, ln_12, rg_9_3 hR, ar_13, ln_13, rg_9_4 hR, ar_14, ln_14, ob_7, rg_7_0 hR, ar_8, ln_8, q_10, rt_in_nI, Option.isSome_some, Option.getD_some, Bool.or_true, Bool.true_or]; done) | fail) only [e_X8_find_0, e_X8_find_1, e_X8_find_2, e_X8_find_3, e_X8_find_6, e_X8_find_8, e_X8_find_9, e_X8_find_13, e_X8_find_14, e_X8_find_17, e_X8_find_20, e_X8_find_22, e_X8_find_23, e_X8_find_26, e_X8_find_27, e_X8_find_29, e_X8_find_30, e_X8_find_31, e_X8_find_32, e_X8_find_35, e_X8_find_38, e_X8_find_40, e_X8_find_42, e_X8_find_43, e_X8_find_45, e_X8_find_48, e_X8_find_51, e_X8_find_53, w2, q_le, q_e1, hk, if_true, if_false]
end P58

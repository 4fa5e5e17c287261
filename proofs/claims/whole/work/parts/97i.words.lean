section P62
variable {e : Nat} {I I2 : Nat → Nat → Int32} {L L2 : Nat → Nat → Int64} {R : Nat → Nat → Option Nat} {a b T j n N k s p en nw v c : Nat} {x : Int32} {t : Nat → Nat} {ws w : List Nat} {wl : Nat → List Nat}
/-- where the letters from p on end -/
def lend (t : Nat → Nat) (n p : Nat) : Nat := lrun t n p (n - p)
theorem lrun_all : ∀ f p, p + f = n → p ≤ lrun t n p f ∧ lrun t n p f ≤ n ∧ (∀ i, p ≤ i → i < lrun t n p f → ltr (t i) = true) ∧ (lrun t n p f < n → ltr (t (lrun t n p f)) = false) := by
  intro f
  induction f with
  | zero =>
    intro p h
    rw [lrun]
    exact ⟨by omega, by omega, fun i h1 h2 => by omega, fun h2 => by omega⟩
  | succ f ih =>
    intro p h
    rw [lrun]
    by_cases hl : ltr (t p) = true
    · rw [if_pos (by rw [hl, decide_eq_true (by omega), Bool.true_and])]
      obtain ⟨h1, h2, h3, h4⟩ := ih (p + 1) (by omega)
      refine ⟨by omega, h2, fun i g1 g2 => ?_, h4⟩
      by_cases e1 : i = p
      · rw [e1]; exact hl
      · exact h3 i (by omega) g2
    · have hl2 : ltr (t p) = false := by simpa using hl
      rw [if_neg (by rw [hl2, Bool.and_false]; simp)]
      exact ⟨by omega, by omega, fun i g1 g2 => by omega, fun _ => hl2⟩
theorem lend_all (h : p ≤ n) : p ≤ lend t n p ∧ lend t n p ≤ n ∧ (∀ i, p ≤ i → i < lend t n p → ltr (t i) = true) ∧ (lend t n p < n → ltr (t (lend t n p)) = false) := lrun_all (n - p) p (by omega)
theorem lend_no (h : p < n) (hl : ltr (t p) = false) : lend t n p = p := by
  unfold lend
  obtain ⟨f, hf⟩ : ∃ f, n - p = f + 1 := ⟨n - p - 1, by omega⟩
  rw [hf, lrun, if_neg (by rw [hl, Bool.and_false]; simp)]
theorem lend_yes (h : p < n) (hl : ltr (t p) = true) : p < lend t n p := by
  obtain ⟨h1, h2, h3, h4⟩ := lend_all (t := t) (n := n) (p := p) (by omega)
  by_cases e1 : lend t n p = p
  · rw [e1] at h4
    rw [h4 h] at hl
    cases hl
  · omega
/-- a word can stand from p on: letters, then a blank or the end -/
def wok (t : Nat → Nat) (n p : Nat) : Bool := ltr (t p) && (decide (lend t n p = n) || decide (t (lend t n p) = 32))
def flt (w p : Nat) : Int32 := -1000 * nI w - nI p
theorem m_wrong (hR : RG R a b) {w : Nat} : Ev mX10_wrong 0 [.ref 33, .int (nI w), .int (nI p)] [] (71 + e, I, L, R) = some (some (.int 0), (71 + e, rt_up I 33 15 (flt w p), L, R)) := by
  simp (disch := first | exact rt_bo_0 | exact rt_bo_1 | exact ns_float | exact ns_int | exact ns_ref | assumption | omega | (simp (disch := omega) only [ob_33, rg_33_2 hR, ar_34, ln_34, rg_33_3 hR, ar_35, ln_35, rg_33_4 hR, ar_36, ln_36, rg_33_5 hR, ar_37, ln_37, rg_33_6 hR, ar_38, ln_38, rg_33_7 hR, ar_39, ln_39, rg_33_8 hR, ar_40, ln_40, rg_33_9 hR, ar_41, ln_41, rg_33_10 hR, ar_42, ln_42, rg_33_11 hR, ar_43, ln_43, rg_33_12 hR, ar_44, ln_44, rg_33_19 hR, ar_45, ln_45, rg_33_20 hR, ar_46, ln_46, rg_33_23 hR, ar_47, ln_47, rg_33_24 hR, ar_48, ln_48, rg_33_25 hR, ar_49, ln_49, rg_33_26 hR, ar_50, ln_50, rg_33_27 hR, ar_51, ln_51, rg_33_28 hR, ar_52, ln_52, rg_33_29 hR, ar_53, ln_53, rg_33_30 hR, ar_54, ln_54, rg_33_39 hR, ar_55, ln_55, rg_33_40 hR, ar_56, ln_56, rg_33_41 hR, ar_57, ln_57, rg_33_42 hR, ar_58, ln_58, rg_33_43 hR, ar_59, ln_59, rg_33_44 hR, ar_60, ln_60, rg_33_45 hR, ar_61, ln_61, rg_33_48 hR, ar_62, ln_62, rg_33_49 hR, ar_63, ln_63, rg_33_50 hR, ar_64, ln_64, rg_33_56 hR, ar_65, ln_65, rg_33_57 hR, ar_66, ln_66, rg_33_58 hR, ar_67, ln_67, rg_33_59 hR, ar_68, ln_68, rg_33_66 hR, ar_69, ln_69, rg_33_67 hR, ar_70, ln_70, rt_in_nI, Option.isSome_some, Option.getD_some, Bool.or_true, Bool.true_or]; done) | fail) only [e_X10_wrong_0, e_X10_wrong_1, e_X10_wrong_4, e_X10_wrong_5, e_X10_wrong_6, e_X10_wrong_7, e_X10_wrong_8, e_X10_wrong_11, e_X10_wrong_12]
  rfl
theorem FrW_up {w : Nat} {x : Int32} (h : FrW I I2) (h1 : 15 ≤ w) (h2 : w ≤ 18) : FrW I (rt_up I2 33 w x) := ⟨fun c hc => by rw [rt_up_f hc, h.1 c hc], fun k hk => by rw [rt_up_n2 (by omega), h.2 k hk]⟩
theorem FrW_rf : FrW I I := ⟨fun _ _ => rfl, fun _ _ => rfl⟩
theorem FrW_tr {I1 : Nat → Nat → Int32} (h1 : FrW I I1) (h2 : FrW I1 I2) : FrW I I2 := ⟨fun c hc => by rw [h2.1 c hc, h1.1 c hc], fun k hk => by rw [h2.2 k hk, h1.2 k hk]⟩
theorem FrL_tr {L1 : Nat → Nat → Int64} (h1 : FrL L L1) (h2 : FrL L1 L2) : FrL L L2 := ⟨fun c hc => by rw [h2.1 c hc, h1.1 c hc], fun k hk => by rw [h2.2 k hk, h1.2 k hk]⟩
theorem TM_W (h : TM I n t) (hf : FrW I I2) : TM I2 n t := by
  obtain ⟨h1, h2, h3, h4⟩ := h
  exact ⟨h1, by rw [hf.2 14 (by omega)]; exact h2, fun k hk => by rw [hf.1 44 (by decide)]; exact h3 k hk, h4⟩
theorem m_readsWord (hR : RG R a b) (hX : TM I n t) (hp : p < n) : ∃ I2 L2, Ev mX10_readsWord 0 [.ref 33, .int (nI p)] [] (71 + e, I, L, R) = some (some (.int (b01 (wok t n p))), (71 + e, I2, L2, R)) ∧ FrW I I2 ∧ FrL L L2 ∧ (wok t n p = false → I2 33 15 = flt 5 (lend t n p)) ∧ (wok t n p = true → I2 33 16 = nI p ∧ I2 33 17 = nI (lend t n p) ∧ I2 33 18 = nI (lend t n p - p) ∧ (lend t n p - p ≤ 10 → L2 33 21 = lN (kyN (txt t p (lend t n p))))) := by
  have x1 := hX.1
  have z0 : nI 0 = 0 := nI_0
  have fr : FrW I (rt_up (rt_up (rt_up I 33 16 (nI p)) 33 17 (nI p)) 33 18 0) := FrW_up (FrW_up (FrW_up FrW_rf (by decide) (by decide)) (by decide) (by decide)) (by decide) (by decide)
  have frl : FrL L (rt_up L 33 21 0) := ⟨fun c hc => rt_up_f hc, fun k hk => rt_up_n2 hk⟩
  have hX1 := TM_W hX fr
  have hl := m_isL (e := e) (L := rt_up L 33 21 0) (p := p) hR hX1 (by omega)
  rw [decide_eq_true hp, Bool.true_and] at hl
  cases hb : ltr (t p) with
  | false =>
    rw [hb, show b01 false = 0 from rfl] at hl
    have hw : wok t n p = false := by unfold wok; rw [hb]; rfl
    rw [hw, lend_no hp hb]
    refine ⟨rt_up (rt_up (rt_up (rt_up I 33 16 (nI p)) 33 17 (nI p)) 33 18 0) 33 15 (flt 5 p), rt_up L 33 21 0, ?_, FrW_up fr (by decide) (by decide), frl, fun _ => rt_up_eq, fun h => by cases h⟩
    have q5 : (5 : Int32) = nI 5 := rfl
    simp (disch := first | exact rt_bo_0 | exact rt_bo_1 | exact ns_float | exact ns_int | exact ns_ref | assumption | omega | (simp (disch := omega) only [ob_33, rg_33_2 hR, ar_34, ln_34, rg_33_3 hR, ar_35, ln_35, rg_33_4 hR, ar_36, ln_36, rg_33_5 hR, ar_37, ln_37, rg_33_6 hR, ar_38, ln_38, rg_33_7 hR, ar_39, ln_39, rg_33_8 hR, ar_40, ln_40, rg_33_9 hR, ar_41, ln_41, rg_33_10 hR, ar_42, ln_42, rg_33_11 hR, ar_43, ln_43, rg_33_12 hR, ar_44, ln_44, rg_33_19 hR, ar_45, ln_45, rg_33_20 hR, ar_46, ln_46, rg_33_23 hR, ar_47, ln_47, rg_33_24 hR, ar_48, ln_48, rg_33_25 hR, ar_49, ln_49, rg_33_26 hR, ar_50, ln_50, rg_33_27 hR, ar_51, ln_51, rg_33_28 hR, ar_52, ln_52, rg_33_29 hR, ar_53, ln_53, rg_33_30 hR, ar_54, ln_54, rg_33_39 hR, ar_55, ln_55, rg_33_40 hR, ar_56, ln_56, rg_33_41 hR, ar_57, ln_57, rg_33_42 hR, ar_58, ln_58, rg_33_43 hR, ar_59, ln_59, rg_33_44 hR, ar_60, ln_60, rg_33_45 hR, ar_61, ln_61, rg_33_48 hR, ar_62, ln_62, rg_33_49 hR, ar_63, ln_63, rg_33_50 hR, ar_64, ln_64, rg_33_56 hR, ar_65, ln_65, rg_33_57 hR, ar_66, ln_66, rg_33_58 hR, ar_67, ln_67, rg_33_59 hR, ar_68, ln_68, rg_33_66 hR, ar_69, ln_69, rg_33_67 hR, ar_70, ln_70, rt_in_nI, Option.isSome_some, Option.getD_some, Bool.or_true, Bool.true_or]; done) | fail) only [e_X10_readsWord_0, e_X10_readsWord_1, e_X10_readsWord_2, e_X10_readsWord_5, e_X10_readsWord_6, e_X10_readsWord_7, e_X10_readsWord_10, e_X10_readsWord_11, e_X10_readsWord_12, e_X10_readsWord_15, e_X10_readsWord_16, e_X10_readsWord_17, e_X10_readsWord_20, e_X10_readsWord_21, e_X10_readsWord_22, e_X10_readsWord_25, e_X10_readsWord_28, e_X10_readsWord_29, e_X10_readsWord_30, e_X10_readsWord_31, e_X10_readsWord_34, e_X10_readsWord_36, e_X10_readsWord_37, e_X10_readsWord_40, e_X10_readsWord_43, e_X10_readsWord_46, e_X10_readsWord_47, e_X10_readsWord_48, e_X10_readsWord_51, e_X10_readsWord_53, e_X10_readsWord_56, e_X10_readsWord_57, e_X10_readsWord_60, e_X10_readsWord_63, e_X10_readsWord_64, e_X10_readsWord_65, e_X10_readsWord_68, e_X10_readsWord_69, e_X10_readsWord_72, e_X10_readsWord_73, e_X10_readsWord_74, e_X10_readsWord_75, e_X10_readsWord_78, e_X10_readsWord_79, e_X10_readsWord_80, e_X10_readsWord_81, e_X10_readsWord_84, e_X10_readsWord_85, e_X10_readsWord_88, e_X10_readsWord_91, e_X10_readsWord_92, e_X10_readsWord_93, e_X10_readsWord_96, e_X10_readsWord_97, e_X10_readsWord_98, e_X10_readsWord_101, e_X10_readsWord_102, e_X10_readsWord_103, e_X10_readsWord_106, e_X10_readsWord_107, e_X10_readsWord_108, e_X10_readsWord_111, e_X10_readsWord_114, e_X10_readsWord_115, e_X10_readsWord_118, e_X10_readsWord_119, e_X10_readsWord_122, e_X10_readsWord_125, e_X10_readsWord_126, e_X10_readsWord_129, e_X10_readsWord_130, e_X10_readsWord_133, e_X10_readsWord_134, e_X10_readsWord_136, e_X10_readsWord_139, e_X10_readsWord_140, e_X10_readsWord_141, e_X10_readsWord_142, e_X10_readsWord_145, e_X10_readsWord_148, e_X10_readsWord_149, e_X10_readsWord_150, hl, q5, m_wrong hR, q_00, if_true, Option.getD_some, Option.bind_some, Option.toList_some, Option.toList_none, List.cons_append, List.nil_append]
    rfl
  | true =>
    rw [hb, show b01 true = 1 from rfl] at hl
    obtain ⟨IB, LB, g1, g2, g3, g4, g5, g6, g7, g8⟩ := m_rw_l (e := e) (R := R) (t := t) (n := n) (p := p) hR (n - p) 0 _ (rt_up L 33 21 0) (by omega) hX1 (by rw [rt_up_n2 (by decide), rt_up_eq]; rfl) (by rw [rt_up_eq]; exact nI_0.symm) (fun _ => by rw [rt_up_eq, Nat.add_zero, txt_nil]; rfl)
    rw [Nat.add_zero] at g6 g7 g8
    change IB 33 17 = nI (lend t n p) at g6
    change IB 33 18 = nI (lend t n p - p) at g7
    change lend t n p - p ≤ 10 → LB 33 21 = lN (kyN (txt t p (lend t n p))) at g8
    have g5' : IB 33 16 = nI p := by rw [g5, rt_up_n2 (by decide), rt_up_n2 (by decide), rt_up_eq]
    obtain ⟨e1, e2, e3, e4⟩ := lend_all (t := t) (n := n) (p := p) (by omega)
    have hXB := TM_W hX1 g2
    have hst : Ev mX10_readsWord 0 [.ref 33, .int (nI p)] [] (71 + e, I, L, R) = Ev mX10_readsWord 114 [.ref 33, .int (nI p)] [] (71 + e, IB, LB, R) := by
      rw [← g1]
      simp (disch := first | exact rt_bo_0 | exact rt_bo_1 | exact ns_float | exact ns_int | exact ns_ref | assumption | omega | (simp (disch := omega) only [ob_33, rg_33_2 hR, ar_34, ln_34, rg_33_3 hR, ar_35, ln_35, rg_33_4 hR, ar_36, ln_36, rg_33_5 hR, ar_37, ln_37, rg_33_6 hR, ar_38, ln_38, rg_33_7 hR, ar_39, ln_39, rg_33_8 hR, ar_40, ln_40, rg_33_9 hR, ar_41, ln_41, rg_33_10 hR, ar_42, ln_42, rg_33_11 hR, ar_43, ln_43, rg_33_12 hR, ar_44, ln_44, rg_33_19 hR, ar_45, ln_45, rg_33_20 hR, ar_46, ln_46, rg_33_23 hR, ar_47, ln_47, rg_33_24 hR, ar_48, ln_48, rg_33_25 hR, ar_49, ln_49, rg_33_26 hR, ar_50, ln_50, rg_33_27 hR, ar_51, ln_51, rg_33_28 hR, ar_52, ln_52, rg_33_29 hR, ar_53, ln_53, rg_33_30 hR, ar_54, ln_54, rg_33_39 hR, ar_55, ln_55, rg_33_40 hR, ar_56, ln_56, rg_33_41 hR, ar_57, ln_57, rg_33_42 hR, ar_58, ln_58, rg_33_43 hR, ar_59, ln_59, rg_33_44 hR, ar_60, ln_60, rg_33_45 hR, ar_61, ln_61, rg_33_48 hR, ar_62, ln_62, rg_33_49 hR, ar_63, ln_63, rg_33_50 hR, ar_64, ln_64, rg_33_56 hR, ar_65, ln_65, rg_33_57 hR, ar_66, ln_66, rg_33_58 hR, ar_67, ln_67, rg_33_59 hR, ar_68, ln_68, rg_33_66 hR, ar_69, ln_69, rg_33_67 hR, ar_70, ln_70, rt_in_nI, Option.isSome_some, Option.getD_some, Bool.or_true, Bool.true_or]; done) | fail) only [e_X10_readsWord_0, e_X10_readsWord_1, e_X10_readsWord_2, e_X10_readsWord_5, e_X10_readsWord_6, e_X10_readsWord_7, e_X10_readsWord_10, e_X10_readsWord_11, e_X10_readsWord_12, e_X10_readsWord_15, e_X10_readsWord_16, e_X10_readsWord_17, e_X10_readsWord_20, e_X10_readsWord_21, e_X10_readsWord_22, e_X10_readsWord_25, e_X10_readsWord_28, e_X10_readsWord_29, e_X10_readsWord_30, e_X10_readsWord_31, e_X10_readsWord_34, e_X10_readsWord_36, e_X10_readsWord_37, e_X10_readsWord_40, e_X10_readsWord_43, e_X10_readsWord_46, e_X10_readsWord_47, e_X10_readsWord_48, e_X10_readsWord_51, e_X10_readsWord_53, e_X10_readsWord_56, e_X10_readsWord_57, e_X10_readsWord_60, e_X10_readsWord_63, e_X10_readsWord_64, e_X10_readsWord_65, e_X10_readsWord_68, e_X10_readsWord_69, e_X10_readsWord_72, e_X10_readsWord_73, e_X10_readsWord_74, e_X10_readsWord_75, e_X10_readsWord_78, e_X10_readsWord_79, e_X10_readsWord_80, e_X10_readsWord_81, e_X10_readsWord_84, e_X10_readsWord_85, e_X10_readsWord_88, e_X10_readsWord_91, e_X10_readsWord_92, e_X10_readsWord_93, e_X10_readsWord_96, e_X10_readsWord_97, e_X10_readsWord_98, e_X10_readsWord_101, e_X10_readsWord_102, e_X10_readsWord_103, e_X10_readsWord_106, e_X10_readsWord_107, e_X10_readsWord_108, e_X10_readsWord_111, e_X10_readsWord_114, e_X10_readsWord_115, e_X10_readsWord_118, e_X10_readsWord_119, e_X10_readsWord_122, e_X10_readsWord_125, e_X10_readsWord_126, e_X10_readsWord_129, e_X10_readsWord_130, e_X10_readsWord_133, e_X10_readsWord_134, e_X10_readsWord_136, e_X10_readsWord_139, e_X10_readsWord_140, e_X10_readsWord_141, e_X10_readsWord_142, e_X10_readsWord_145, e_X10_readsWord_148, e_X10_readsWord_149, e_X10_readsWord_150, hl, q_10, if_false, Option.getD_some, Option.bind_some, Option.toList_some, Option.toList_none, List.cons_append, List.nil_append]
    rw [hst]
    have q32 : (32 : Int32) = nI 32 := rfl
    by_cases hn : lend t n p = n
    · have hw : wok t n p = true := by unfold wok; rw [hb, decide_eq_true hn]; rfl
      have hn2 : n ≤ lend t n p := by omega
      rw [hw]
      refine ⟨IB, LB, ?_, FrW_tr fr g2, FrL_tr frl g3, fun h => (by cases h), fun _ => ⟨g5', g6, g7, g8⟩⟩
      simp (disch := first | exact rt_bo_0 | exact rt_bo_1 | exact ns_float | exact ns_int | exact ns_ref | assumption | omega | (simp (disch := omega) only [ob_33, rg_33_2 hR, ar_34, ln_34, rg_33_3 hR, ar_35, ln_35, rg_33_4 hR, ar_36, ln_36, rg_33_5 hR, ar_37, ln_37, rg_33_6 hR, ar_38, ln_38, rg_33_7 hR, ar_39, ln_39, rg_33_8 hR, ar_40, ln_40, rg_33_9 hR, ar_41, ln_41, rg_33_10 hR, ar_42, ln_42, rg_33_11 hR, ar_43, ln_43, rg_33_12 hR, ar_44, ln_44, rg_33_19 hR, ar_45, ln_45, rg_33_20 hR, ar_46, ln_46, rg_33_23 hR, ar_47, ln_47, rg_33_24 hR, ar_48, ln_48, rg_33_25 hR, ar_49, ln_49, rg_33_26 hR, ar_50, ln_50, rg_33_27 hR, ar_51, ln_51, rg_33_28 hR, ar_52, ln_52, rg_33_29 hR, ar_53, ln_53, rg_33_30 hR, ar_54, ln_54, rg_33_39 hR, ar_55, ln_55, rg_33_40 hR, ar_56, ln_56, rg_33_41 hR, ar_57, ln_57, rg_33_42 hR, ar_58, ln_58, rg_33_43 hR, ar_59, ln_59, rg_33_44 hR, ar_60, ln_60, rg_33_45 hR, ar_61, ln_61, rg_33_48 hR, ar_62, ln_62, rg_33_49 hR, ar_63, ln_63, rg_33_50 hR, ar_64, ln_64, rg_33_56 hR, ar_65, ln_65, rg_33_57 hR, ar_66, ln_66, rg_33_58 hR, ar_67, ln_67, rg_33_59 hR, ar_68, ln_68, rg_33_66 hR, ar_69, ln_69, rg_33_67 hR, ar_70, ln_70, rt_in_nI, Option.isSome_some, Option.getD_some, Bool.or_true, Bool.true_or]; done) | fail) only [e_X10_readsWord_0, e_X10_readsWord_1, e_X10_readsWord_2, e_X10_readsWord_5, e_X10_readsWord_6, e_X10_readsWord_7, e_X10_readsWord_10, e_X10_readsWord_11, e_X10_readsWord_12, e_X10_readsWord_15, e_X10_readsWord_16, e_X10_readsWord_17, e_X10_readsWord_20, e_X10_readsWord_21, e_X10_readsWord_22, e_X10_readsWord_25, e_X10_readsWord_28, e_X10_readsWord_29, e_X10_readsWord_30, e_X10_readsWord_31, e_X10_readsWord_34, e_X10_readsWord_36, e_X10_readsWord_37, e_X10_readsWord_40, e_X10_readsWord_43, e_X10_readsWord_46, e_X10_readsWord_47, e_X10_readsWord_48, e_X10_readsWord_51, e_X10_readsWord_53, e_X10_readsWord_56, e_X10_readsWord_57, e_X10_readsWord_60, e_X10_readsWord_63, e_X10_readsWord_64, e_X10_readsWord_65, e_X10_readsWord_68, e_X10_readsWord_69, e_X10_readsWord_72, e_X10_readsWord_73, e_X10_readsWord_74, e_X10_readsWord_75, e_X10_readsWord_78, e_X10_readsWord_79, e_X10_readsWord_80, e_X10_readsWord_81, e_X10_readsWord_84, e_X10_readsWord_85, e_X10_readsWord_88, e_X10_readsWord_91, e_X10_readsWord_92, e_X10_readsWord_93, e_X10_readsWord_96, e_X10_readsWord_97, e_X10_readsWord_98, e_X10_readsWord_101, e_X10_readsWord_102, e_X10_readsWord_103, e_X10_readsWord_106, e_X10_readsWord_107, e_X10_readsWord_108, e_X10_readsWord_111, e_X10_readsWord_114, e_X10_readsWord_115, e_X10_readsWord_118, e_X10_readsWord_119, e_X10_readsWord_122, e_X10_readsWord_125, e_X10_readsWord_126, e_X10_readsWord_129, e_X10_readsWord_130, e_X10_readsWord_133, e_X10_readsWord_134, e_X10_readsWord_136, e_X10_readsWord_139, e_X10_readsWord_140, e_X10_readsWord_141, e_X10_readsWord_142, e_X10_readsWord_145, e_X10_readsWord_148, e_X10_readsWord_149, e_X10_readsWord_150, g6, hXB.2.1, q_le, hn2, if_true, Option.getD_some, Option.bind_some, Option.toList_some, Option.toList_none, List.cons_append, List.nil_append]
      rfl
    · have hn2 : ¬ n ≤ lend t n p := by omega
      have h44 := hXB.2.2.1 (lend t n p) (by omega)
      have hs := (sgb_all _ (hXB.2.2.2 (lend t n p) (by omega))).2.2
      by_cases h32 : t (lend t n p) = 32
      · have hw : wok t n p = true := by unfold wok; rw [hb, decide_eq_true h32, Bool.or_true]; rfl
        rw [hw]
        have h44' : IB 44 (lend t n p) = 32 := by rw [h44]; exact hs.mpr h32
        refine ⟨IB, LB, ?_, FrW_tr fr g2, FrL_tr frl g3, fun h => (by cases h), fun _ => ⟨g5', g6, g7, g8⟩⟩
        simp (disch := first | exact rt_bo_0 | exact rt_bo_1 | exact ns_float | exact ns_int | exact ns_ref | assumption | omega | (simp (disch := omega) only [ob_33, rg_33_2 hR, ar_34, ln_34, rg_33_3 hR, ar_35, ln_35, rg_33_4 hR, ar_36, ln_36, rg_33_5 hR, ar_37, ln_37, rg_33_6 hR, ar_38, ln_38, rg_33_7 hR, ar_39, ln_39, rg_33_8 hR, ar_40, ln_40, rg_33_9 hR, ar_41, ln_41, rg_33_10 hR, ar_42, ln_42, rg_33_11 hR, ar_43, ln_43, rg_33_12 hR, ar_44, ln_44, rg_33_19 hR, ar_45, ln_45, rg_33_20 hR, ar_46, ln_46, rg_33_23 hR, ar_47, ln_47, rg_33_24 hR, ar_48, ln_48, rg_33_25 hR, ar_49, ln_49, rg_33_26 hR, ar_50, ln_50, rg_33_27 hR, ar_51, ln_51, rg_33_28 hR, ar_52, ln_52, rg_33_29 hR, ar_53, ln_53, rg_33_30 hR, ar_54, ln_54, rg_33_39 hR, ar_55, ln_55, rg_33_40 hR, ar_56, ln_56, rg_33_41 hR, ar_57, ln_57, rg_33_42 hR, ar_58, ln_58, rg_33_43 hR, ar_59, ln_59, rg_33_44 hR, ar_60, ln_60, rg_33_45 hR, ar_61, ln_61, rg_33_48 hR, ar_62, ln_62, rg_33_49 hR, ar_63, ln_63, rg_33_50 hR, ar_64, ln_64, rg_33_56 hR, ar_65, ln_65, rg_33_57 hR, ar_66, ln_66, rg_33_58 hR, ar_67, ln_67, rg_33_59 hR, ar_68, ln_68, rg_33_66 hR, ar_69, ln_69, rg_33_67 hR, ar_70, ln_70, rt_in_nI, Option.isSome_some, Option.getD_some, Bool.or_true, Bool.true_or]; done) | fail) only [e_X10_readsWord_0, e_X10_readsWord_1, e_X10_readsWord_2, e_X10_readsWord_5, e_X10_readsWord_6, e_X10_readsWord_7, e_X10_readsWord_10, e_X10_readsWord_11, e_X10_readsWord_12, e_X10_readsWord_15, e_X10_readsWord_16, e_X10_readsWord_17, e_X10_readsWord_20, e_X10_readsWord_21, e_X10_readsWord_22, e_X10_readsWord_25, e_X10_readsWord_28, e_X10_readsWord_29, e_X10_readsWord_30, e_X10_readsWord_31, e_X10_readsWord_34, e_X10_readsWord_36, e_X10_readsWord_37, e_X10_readsWord_40, e_X10_readsWord_43, e_X10_readsWord_46, e_X10_readsWord_47, e_X10_readsWord_48, e_X10_readsWord_51, e_X10_readsWord_53, e_X10_readsWord_56, e_X10_readsWord_57, e_X10_readsWord_60, e_X10_readsWord_63, e_X10_readsWord_64, e_X10_readsWord_65, e_X10_readsWord_68, e_X10_readsWord_69, e_X10_readsWord_72, e_X10_readsWord_73, e_X10_readsWord_74, e_X10_readsWord_75, e_X10_readsWord_78, e_X10_readsWord_79, e_X10_readsWord_80, e_X10_readsWord_81, e_X10_readsWord_84, e_X10_readsWord_85, e_X10_readsWord_88, e_X10_readsWord_91, e_X10_readsWord_92, e_X10_readsWord_93, e_X10_readsWord_96, e_X10_readsWord_97, e_X10_readsWord_98, e_X10_readsWord_101, e_X10_readsWord_102, e_X10_readsWord_103, e_X10_readsWord_106, e_X10_readsWord_107, e_X10_readsWord_108, e_X10_readsWord_111, e_X10_readsWord_114, e_X10_readsWord_115, e_X10_readsWord_118, e_X10_readsWord_119, e_X10_readsWord_122, e_X10_readsWord_125, e_X10_readsWord_126, e_X10_readsWord_129, e_X10_readsWord_130, e_X10_readsWord_133, e_X10_readsWord_134, e_X10_readsWord_136, e_X10_readsWord_139, e_X10_readsWord_140, e_X10_readsWord_141, e_X10_readsWord_142, e_X10_readsWord_145, e_X10_readsWord_148, e_X10_readsWord_149, e_X10_readsWord_150, rg_33_12 hR, g6, hXB.2.1, nI_cl, h44', q_le, hn2, if_true, if_false, Option.getD_some, Option.bind_some, Option.toList_some, Option.toList_none, List.cons_append, List.nil_append]
        rfl
      · have hw : wok t n p = false := by unfold wok; rw [hb, decide_eq_false h32, decide_eq_false hn]; rfl
        rw [hw]
        have h44' : ¬ IB 44 (lend t n p) = 32 := by rw [h44]; exact fun h => h32 (hs.mp h)
        have q5 : (5 : Int32) = nI 5 := rfl
        refine ⟨rt_up IB 33 15 (flt 5 (lend t n p)), LB, ?_, FrW_up (FrW_tr fr g2) (by decide) (by decide), FrL_tr frl g3, fun _ => rt_up_eq, fun h => (by cases h)⟩
        simp (disch := first | exact rt_bo_0 | exact rt_bo_1 | exact ns_float | exact ns_int | exact ns_ref | assumption | omega | (simp (disch := omega) only [ob_33, rg_33_2 hR, ar_34, ln_34, rg_33_3 hR, ar_35, ln_35, rg_33_4 hR, ar_36, ln_36, rg_33_5 hR, ar_37, ln_37, rg_33_6 hR, ar_38, ln_38, rg_33_7 hR, ar_39, ln_39, rg_33_8 hR, ar_40, ln_40, rg_33_9 hR, ar_41, ln_41, rg_33_10 hR, ar_42, ln_42, rg_33_11 hR, ar_43, ln_43, rg_33_12 hR, ar_44, ln_44, rg_33_19 hR, ar_45, ln_45, rg_33_20 hR, ar_46, ln_46, rg_33_23 hR, ar_47, ln_47, rg_33_24 hR, ar_48, ln_48, rg_33_25 hR, ar_49, ln_49, rg_33_26 hR, ar_50, ln_50, rg_33_27 hR, ar_51, ln_51, rg_33_28 hR, ar_52, ln_52, rg_33_29 hR, ar_53, ln_53, rg_33_30 hR, ar_54, ln_54, rg_33_39 hR, ar_55, ln_55, rg_33_40 hR, ar_56, ln_56, rg_33_41 hR, ar_57, ln_57, rg_33_42 hR, ar_58, ln_58, rg_33_43 hR, ar_59, ln_59, rg_33_44 hR, ar_60, ln_60, rg_33_45 hR, ar_61, ln_61, rg_33_48 hR, ar_62, ln_62, rg_33_49 hR, ar_63, ln_63, rg_33_50 hR, ar_64, ln_64, rg_33_56 hR, ar_65, ln_65, rg_33_57 hR, ar_66, ln_66, rg_33_58 hR, ar_67, ln_67, rg_33_59 hR, ar_68, ln_68, rg_33_66 hR, ar_69, ln_69, rg_33_67 hR, ar_70, ln_70, rt_in_nI, Option.isSome_some, Option.getD_some, Bool.or_true, Bool.true_or]; done) | fail) only [e_X10_readsWord_0, e_X10_readsWord_1, e_X10_readsWord_2, e_X10_readsWord_5, e_X10_readsWord_6, e_X10_readsWord_7, e_X10_readsWord_10, e_X10_readsWord_11, e_X10_readsWord_12, e_X10_readsWord_15, e_X10_readsWord_16, e_X10_readsWord_17, e_X10_readsWord_20, e_X10_readsWord_21, e_X10_readsWord_22, e_X10_readsWord_25, e_X10_readsWord_28, e_X10_readsWord_29, e_X10_readsWord_30, e_X10_readsWord_31, e_X10_readsWord_34, e_X10_readsWord_36, e_X10_readsWord_37, e_X10_readsWord_40, e_X10_readsWord_43, e_X10_readsWord_46, e_X10_readsWord_47, e_X10_readsWord_48, e_X10_readsWord_51, e_X10_readsWord_53, e_X10_readsWord_56, e_X10_readsWord_57, e_X10_readsWord_60, e_X10_readsWord_63, e_X10_readsWord_64, e_X10_readsWord_65, e_X10_readsWord_68, e_X10_readsWord_69, e_X10_readsWord_72, e_X10_readsWord_73, e_X10_readsWord_74, e_X10_readsWord_75, e_X10_readsWord_78, e_X10_readsWord_79, e_X10_readsWord_80, e_X10_readsWord_81, e_X10_readsWord_84, e_X10_readsWord_85, e_X10_readsWord_88, e_X10_readsWord_91, e_X10_readsWord_92, e_X10_readsWord_93, e_X10_readsWord_96, e_X10_readsWord_97, e_X10_readsWord_98, e_X10_readsWord_101, e_X10_readsWord_102, e_X10_readsWord_103, e_X10_readsWord_106, e_X10_readsWord_107, e_X10_readsWord_108, e_X10_readsWord_111, e_X10_readsWord_114, e_X10_readsWord_115, e_X10_readsWord_118, e_X10_readsWord_119, e_X10_readsWord_122, e_X10_readsWord_125, e_X10_readsWord_126, e_X10_readsWord_129, e_X10_readsWord_130, e_X10_readsWord_133, e_X10_readsWord_134, e_X10_readsWord_136, e_X10_readsWord_139, e_X10_readsWord_140, e_X10_readsWord_141, e_X10_readsWord_142, e_X10_readsWord_145, e_X10_readsWord_148, e_X10_readsWord_149, e_X10_readsWord_150, rg_33_12 hR, g6, hXB.2.1, nI_cl, h44', q5, m_wrong hR, q_le, hn2, if_true, if_false, Option.getD_some, Option.bind_some, Option.toList_some, Option.toList_none, List.cons_append, List.nil_append]
        rfl
/-- the first of f known words from k on that has this key -/
def kx (key : Int64) : Nat → Nat → Option Nat
  | _, 0 => none
  | k, f + 1 => if in_W.getD k 0 = key then some k else kx key (k + 1) f
theorem kx_all {key : Int64} : ∀ f k, (∀ c, kx key k f = some c → k ≤ c ∧ c < k + f ∧ in_W.getD c 0 = key) ∧ (kx key k f = none → ∀ c, k ≤ c → c < k + f → in_W.getD c 0 ≠ key) := by
  intro f
  induction f with
  | zero => intro k; exact ⟨fun c h => (by cases h), fun _ c h1 h2 => by omega⟩
  | succ f ih =>
    intro k
    obtain ⟨i1, i2⟩ := ih (k + 1)
    rw [kx]
    by_cases h : in_W.getD k 0 = key
    · rw [if_pos h]
      refine ⟨fun c hc => ?_, fun hc => (by cases hc)⟩
      rw [Option.some.injEq] at hc
      subst hc
      exact ⟨by omega, by omega, h⟩
    · rw [if_neg h]
      refine ⟨fun c hc => ?_, fun hc c h1 h2 => ?_⟩
      · obtain ⟨j1, j2, j3⟩ := i1 c hc
        exact ⟨by omega, by omega, j3⟩
      · by_cases e1 : c = k
        · rw [e1]; exact h
        · exact i2 hc c (by omega) (by omega)
theorem bW_ok : ∀ c, c < 29 → (bW.getD c []).length ≤ 10 ∧ (∀ v, v ∈ bW.getD c [] → 97 ≤ v ∧ v ≤ 122) ∧ in_W.getD (rwd c) 0 = lN (kyN (bW.getD c [])) ∧ rwd c < 29 := by decide +kernel
theorem bW_inv : ∀ k, k < 29 → ∃ c, c < 29 ∧ rwd c = k := by decide +kernel
theorem bW_nd : ∀ c, c < 29 → ∀ k, k < 29 → bW.getD c [] = bW.getD k [] → c = k := by decide +kernel
theorem ixw_none : ∀ {l : List (List Nat)} {k : Nat}, ixw ws k l = none → ∀ j, j < l.length → l.getD j [] ≠ ws := by
  intro l
  induction l with
  | nil => intro k _ j hj; exact absurd hj (by simp)
  | cons v l ih =>
    intro k h j hj
    rw [ixw] at h
    by_cases hv : v = ws
    · rw [if_pos hv] at h; cases h
    · rw [if_neg hv] at h
      cases j with
      | zero => exact hv
      | succ j => rw [List.getD_cons_succ]; exact ih h j (by rw [List.length_cons] at hj; omega)
theorem ixw_some (h : ixw ws 0 bW = some c) : c < 29 ∧ bW.getD c [] = ws := by
  obtain ⟨h1, h2, h3⟩ := ixw_ge h
  rw [bW_len] at h2
  rw [Nat.sub_zero] at h3
  exact ⟨by omega, by rw [List.getD_eq_getElem?_getD, h3]; rfl⟩
theorem kyN_63 (h1 : w.length ≤ 10) (h2 : ∀ c, c ∈ w → 97 ≤ c ∧ c ≤ 122) : kyN w < 2 ^ 63 := by
  have h3 := kyN_lt _ w rfl h2
  have h4 : 27 ^ w.length ≤ 27 ^ 10 := Nat.pow_le_pow_right (by decide) h1
  have h5 : (27 : Nat) ^ 10 < 2 ^ 63 := by decide
  omega
theorem ky_eq (h1 : w.length ≤ 10) (h2 : ∀ c, c ∈ w → 97 ≤ c ∧ c ≤ 122) (h3 : ws.length ≤ 10) (h4 : ∀ c, c ∈ ws → 97 ≤ c ∧ c ≤ 122) : (lN (kyN w) = lN (kyN ws)) = (w = ws) := by
  apply propext
  rw [pk_lEQ (kyN_63 h1 h2) (kyN_63 h3 h4)]
  exact ⟨fun h => kyN_inj _ w ws rfl h2 h4 h, fun h => by rw [h]⟩
theorem kx_ixw (h3 : ws.length ≤ 10) (h4 : ∀ c, c ∈ ws → 97 ≤ c ∧ c ≤ 122) : kx (lN (kyN ws)) 0 29 = (ixw ws 0 bW).map rwd := by
  obtain ⟨k1, k2⟩ := kx_all (key := lN (kyN ws)) 29 0
  cases hk : kx (lN (kyN ws)) 0 29 with
  | some c =>
    obtain ⟨-, j2, j3⟩ := k1 c hk
    obtain ⟨d, d1, d2⟩ := bW_inv c (by omega)
    obtain ⟨o1, o2, o3, -⟩ := bW_ok d d1
    rw [d2, j3, ky_eq h3 h4 o1 o2] at o3
    cases hi : ixw ws 0 bW with
    | none => exact absurd o3.symm (ixw_none hi d (by rw [bW_len]; exact d1))
    | some f =>
      obtain ⟨f1, f2⟩ := ixw_some hi
      have := bW_nd d d1 f f1 (by rw [f2, o3])
      rw [Option.map_some, ← this, d2]
  | none =>
    cases hi : ixw ws 0 bW with
    | none => rfl
    | some f =>
      obtain ⟨f1, f2⟩ := ixw_some hi
      obtain ⟨o1, o2, o3, o4⟩ := bW_ok f f1
      rw [f2] at o3
      exact absurd o3 (k2 hk (rwd f) (by omega) (by omega))
/-- the reference's number of a word, 60: none -/
def oW : Option Nat → Nat
  | none => 60
  | some c => rwd c
/-- how the reference holds words -/
def WM (I : Nat → Nat → Int32) (L : Nat → Nat → Int64) (nw : Nat) (wl : Nat → List Nat) : Prop := nw ≤ 8 ∧ I 33 22 = nI nw ∧ (∀ k, k < nw → okW (wl k) ∧ L 46 k = lN (kyN (wl k))) ∧ ∀ k, k < 29 → L 45 k = in_W.getD k 0
theorem m_wn_2 (hR : RG R a b) (hW : WM I L nw wl) (h3 : ws.length ≤ 10) (h4 : ∀ c, c ∈ ws → 97 ≤ c ∧ c ≤ 122) (hk : L 33 21 = lN (kyN ws)) : ∀ f k, k + f = nw → Ev mX10_wordNumber 44 [.ref 33, .int (nI k)] [] (71 + e, I, L, R) = some (some (.int (nI (oW (tix wl ws k f)))), (71 + e, I, L, R)) := by
  obtain ⟨w1, w2, w3, w4⟩ := hW
  intro f
  induction f with
  | zero =>
    intro k h
    have c1 : nw ≤ k := by omega
    rw [e_X10_wordNumber_44]
    simp (disch := first | exact rt_bo_0 | exact rt_bo_1 | exact ns_float | exact ns_int | exact ns_ref | assumption | omega | (simp (disch := omega) only [ob_33, rg_33_2 hR, ar_34, ln_34, rg_33_3 hR, ar_35, ln_35, rg_33_4 hR, ar_36, ln_36, rg_33_5 hR, ar_37, ln_37, rg_33_6 hR, ar_38, ln_38, rg_33_7 hR, ar_39, ln_39, rg_33_8 hR, ar_40, ln_40, rg_33_9 hR, ar_41, ln_41, rg_33_10 hR, ar_42, ln_42, rg_33_11 hR, ar_43, ln_43, rg_33_12 hR, ar_44, ln_44, rg_33_19 hR, ar_45, ln_45, rg_33_20 hR, ar_46, ln_46, rg_33_23 hR, ar_47, ln_47, rg_33_24 hR, ar_48, ln_48, rg_33_25 hR, ar_49, ln_49, rg_33_26 hR, ar_50, ln_50, rg_33_27 hR, ar_51, ln_51, rg_33_28 hR, ar_52, ln_52, rg_33_29 hR, ar_53, ln_53, rg_33_30 hR, ar_54, ln_54, rg_33_39 hR, ar_55, ln_55, rg_33_40 hR, ar_56, ln_56, rg_33_41 hR, ar_57, ln_57, rg_33_42 hR, ar_58, ln_58, rg_33_43 hR, ar_59, ln_59, rg_33_44 hR, ar_60, ln_60, rg_33_45 hR, ar_61, ln_61, rg_33_48 hR, ar_62, ln_62, rg_33_49 hR, ar_63, ln_63, rg_33_50 hR, ar_64, ln_64, rg_33_56 hR, ar_65, ln_65, rg_33_57 hR, ar_66, ln_66, rg_33_58 hR, ar_67, ln_67, rg_33_59 hR, ar_68, ln_68, rg_33_66 hR, ar_69, ln_69, rg_33_67 hR, ar_70, ln_70, rt_in_nI, Option.isSome_some, Option.getD_some, Bool.or_true, Bool.true_or]; done) | fail) only [e_X10_wordNumber_0, e_X10_wordNumber_1, e_X10_wordNumber_4, e_X10_wordNumber_6, e_X10_wordNumber_9, e_X10_wordNumber_11, e_X10_wordNumber_12, e_X10_wordNumber_13, e_X10_wordNumber_15, e_X10_wordNumber_17, e_X10_wordNumber_20, e_X10_wordNumber_21, e_X10_wordNumber_24, e_X10_wordNumber_25, e_X10_wordNumber_26, e_X10_wordNumber_27, e_X10_wordNumber_30, e_X10_wordNumber_31, e_X10_wordNumber_34, e_X10_wordNumber_35, e_X10_wordNumber_36, e_X10_wordNumber_39, e_X10_wordNumber_42, e_X10_wordNumber_43, e_X10_wordNumber_45, e_X10_wordNumber_46, e_X10_wordNumber_49, e_X10_wordNumber_52, e_X10_wordNumber_53, e_X10_wordNumber_56, e_X10_wordNumber_57, e_X10_wordNumber_58, e_X10_wordNumber_59, e_X10_wordNumber_62, e_X10_wordNumber_63, e_X10_wordNumber_66, e_X10_wordNumber_68, e_X10_wordNumber_69, e_X10_wordNumber_70, e_X10_wordNumber_71, e_X10_wordNumber_74, e_X10_wordNumber_77, e_X10_wordNumber_79, w2, q_le, c1, if_true, tix, oW]
    rfl
  | succ f ih =>
    intro k h
    have c1 : ¬ nw ≤ k := by omega
    obtain ⟨⟨o1, o2, o3⟩, o4⟩ := w3 k (by omega)
    have hi := ih (k + 1) (by omega)
    have q40 : (40 : Int32) = nI 40 := rfl
    rw [e_X10_wordNumber_44, tix]
    by_cases hw : wl k = ws
    · rw [if_pos hw]
      have hq : (lN (kyN (wl k)) = lN (kyN ws)) = True := by rw [ky_eq o2 o3 h3 h4]; exact eq_true hw
      have hr : oW (some (29 + k)) = 40 + k := by show rwd (29 + k) = 40 + k; unfold rwd; rw [if_neg (by omega), if_neg (by omega), if_neg (by omega)]; omega
      simp (disch := first | exact rt_bo_0 | exact rt_bo_1 | exact ns_float | exact ns_int | exact ns_ref | assumption | omega | (simp (disch := omega) only [ob_33, rg_33_2 hR, ar_34, ln_34, rg_33_3 hR, ar_35, ln_35, rg_33_4 hR, ar_36, ln_36, rg_33_5 hR, ar_37, ln_37, rg_33_6 hR, ar_38, ln_38, rg_33_7 hR, ar_39, ln_39, rg_33_8 hR, ar_40, ln_40, rg_33_9 hR, ar_41, ln_41, rg_33_10 hR, ar_42, ln_42, rg_33_11 hR, ar_43, ln_43, rg_33_12 hR, ar_44, ln_44, rg_33_19 hR, ar_45, ln_45, rg_33_20 hR, ar_46, ln_46, rg_33_23 hR, ar_47, ln_47, rg_33_24 hR, ar_48, ln_48, rg_33_25 hR, ar_49, ln_49, rg_33_26 hR, ar_50, ln_50, rg_33_27 hR, ar_51, ln_51, rg_33_28 hR, ar_52, ln_52, rg_33_29 hR, ar_53, ln_53, rg_33_30 hR, ar_54, ln_54, rg_33_39 hR, ar_55, ln_55, rg_33_40 hR, ar_56, ln_56, rg_33_41 hR, ar_57, ln_57, rg_33_42 hR, ar_58, ln_58, rg_33_43 hR, ar_59, ln_59, rg_33_44 hR, ar_60, ln_60, rg_33_45 hR, ar_61, ln_61, rg_33_48 hR, ar_62, ln_62, rg_33_49 hR, ar_63, ln_63, rg_33_50 hR, ar_64, ln_64, rg_33_56 hR, ar_65, ln_65, rg_33_57 hR, ar_66, ln_66, rg_33_58 hR, ar_67, ln_67, rg_33_59 hR, ar_68, ln_68, rg_33_66 hR, ar_69, ln_69, rg_33_67 hR, ar_70, ln_70, rt_in_nI, Option.isSome_some, Option.getD_some, Bool.or_true, Bool.true_or]; done) | fail) only [e_X10_wordNumber_0, e_X10_wordNumber_1, e_X10_wordNumber_4, e_X10_wordNumber_6, e_X10_wordNumber_9, e_X10_wordNumber_11, e_X10_wordNumber_12, e_X10_wordNumber_13, e_X10_wordNumber_15, e_X10_wordNumber_17, e_X10_wordNumber_20, e_X10_wordNumber_21, e_X10_wordNumber_24, e_X10_wordNumber_25, e_X10_wordNumber_26, e_X10_wordNumber_27, e_X10_wordNumber_30, e_X10_wordNumber_31, e_X10_wordNumber_34, e_X10_wordNumber_35, e_X10_wordNumber_36, e_X10_wordNumber_39, e_X10_wordNumber_42, e_X10_wordNumber_43, e_X10_wordNumber_45, e_X10_wordNumber_46, e_X10_wordNumber_49, e_X10_wordNumber_52, e_X10_wordNumber_53, e_X10_wordNumber_56, e_X10_wordNumber_57, e_X10_wordNumber_58, e_X10_wordNumber_59, e_X10_wordNumber_62, e_X10_wordNumber_63, e_X10_wordNumber_66, e_X10_wordNumber_68, e_X10_wordNumber_69, e_X10_wordNumber_70, e_X10_wordNumber_71, e_X10_wordNumber_74, e_X10_wordNumber_77, e_X10_wordNumber_79, rg_33_20 hR, w2, q_le, c1, nI_cl, o4, hk, lgc0, hq, q40, nI_add, if_true, if_false, hr, Option.getD_some, Option.bind_some, Option.toList_some, Option.toList_none, List.cons_append, List.nil_append]
    · rw [if_neg hw]
      have hq : (lN (kyN (wl k)) = lN (kyN ws)) = False := by rw [ky_eq o2 o3 h3 h4]; exact eq_false hw
      simp (disch := first | exact rt_bo_0 | exact rt_bo_1 | exact ns_float | exact ns_int | exact ns_ref | assumption | omega | (simp (disch := omega) only [ob_33, rg_33_2 hR, ar_34, ln_34, rg_33_3 hR, ar_35, ln_35, rg_33_4 hR, ar_36, ln_36, rg_33_5 hR, ar_37, ln_37, rg_33_6 hR, ar_38, ln_38, rg_33_7 hR, ar_39, ln_39, rg_33_8 hR, ar_40, ln_40, rg_33_9 hR, ar_41, ln_41, rg_33_10 hR, ar_42, ln_42, rg_33_11 hR, ar_43, ln_43, rg_33_12 hR, ar_44, ln_44, rg_33_19 hR, ar_45, ln_45, rg_33_20 hR, ar_46, ln_46, rg_33_23 hR, ar_47, ln_47, rg_33_24 hR, ar_48, ln_48, rg_33_25 hR, ar_49, ln_49, rg_33_26 hR, ar_50, ln_50, rg_33_27 hR, ar_51, ln_51, rg_33_28 hR, ar_52, ln_52, rg_33_29 hR, ar_53, ln_53, rg_33_30 hR, ar_54, ln_54, rg_33_39 hR, ar_55, ln_55, rg_33_40 hR, ar_56, ln_56, rg_33_41 hR, ar_57, ln_57, rg_33_42 hR, ar_58, ln_58, rg_33_43 hR, ar_59, ln_59, rg_33_44 hR, ar_60, ln_60, rg_33_45 hR, ar_61, ln_61, rg_33_48 hR, ar_62, ln_62, rg_33_49 hR, ar_63, ln_63, rg_33_50 hR, ar_64, ln_64, rg_33_56 hR, ar_65, ln_65, rg_33_57 hR, ar_66, ln_66, rg_33_58 hR, ar_67, ln_67, rg_33_59 hR, ar_68, ln_68, rg_33_66 hR, ar_69, ln_69, rg_33_67 hR, ar_70, ln_70, rt_in_nI, Option.isSome_some, Option.getD_some, Bool.or_true, Bool.true_or]; done) | fail) only [e_X10_wordNumber_0, e_X10_wordNumber_1, e_X10_wordNumber_4, e_X10_wordNumber_6, e_X10_wordNumber_9, e_X10_wordNumber_11, e_X10_wordNumber_12, e_X10_wordNumber_13, e_X10_wordNumber_15, e_X10_wordNumber_17, e_X10_wordNumber_20, e_X10_wordNumber_21, e_X10_wordNumber_24, e_X10_wordNumber_25, e_X10_wordNumber_26, e_X10_wordNumber_27, e_X10_wordNumber_30, e_X10_wordNumber_31, e_X10_wordNumber_34, e_X10_wordNumber_35, e_X10_wordNumber_36, e_X10_wordNumber_39, e_X10_wordNumber_42, e_X10_wordNumber_43, e_X10_wordNumber_45, e_X10_wordNumber_46, e_X10_wordNumber_49, e_X10_wordNumber_52, e_X10_wordNumber_53, e_X10_wordNumber_56, e_X10_wordNumber_57, e_X10_wordNumber_58, e_X10_wordNumber_59, e_X10_wordNumber_62, e_X10_wordNumber_63, e_X10_wordNumber_66, e_X10_wordNumber_68, e_X10_wordNumber_69, e_X10_wordNumber_70, e_X10_wordNumber_71, e_X10_wordNumber_74, e_X10_wordNumber_77, e_X10_wordNumber_79, rg_33_20 hR, w2, q_le, c1, nI_cl, o4, hk, lgc0, hq, q_s, if_true, if_false, hi, Option.getD_some, Option.bind_some, Option.toList_some, Option.toList_none, List.cons_append, List.nil_append]
theorem m_wn_1 (hR : RG R a b) (h4 : ∀ k, k < 29 → L 45 k = in_W.getD k 0) {key : Int64} (hk : L 33 21 = key) : ∀ f k, k + f = 29 → Ev mX10_wordNumber 14 [.ref 33, .int (nI k)] [] (71 + e, I, L, R) = match kx key k f with | some c => some (some (.int (nI c)), (71 + e, I, L, R)) | none => Ev mX10_wordNumber 42 [.ref 33, .int (nI 29)] [] (71 + e, I, L, R) := by
  have q29 : (29 : Int32) = nI 29 := rfl
  intro f
  induction f with
  | zero =>
    intro k h
    have c1 : k = 29 := by omega
    subst c1
    have c2 : (29 : Nat) ≤ 29 := by decide
    rw [e_X10_wordNumber_14]
    simp (disch := first | exact rt_bo_0 | exact rt_bo_1 | exact ns_float | exact ns_int | exact ns_ref | assumption | omega | (simp (disch := omega) only [ob_33, rg_33_2 hR, ar_34, ln_34, rg_33_3 hR, ar_35, ln_35, rg_33_4 hR, ar_36, ln_36, rg_33_5 hR, ar_37, ln_37, rg_33_6 hR, ar_38, ln_38, rg_33_7 hR, ar_39, ln_39, rg_33_8 hR, ar_40, ln_40, rg_33_9 hR, ar_41, ln_41, rg_33_10 hR, ar_42, ln_42, rg_33_11 hR, ar_43, ln_43, rg_33_12 hR, ar_44, ln_44, rg_33_19 hR, ar_45, ln_45, rg_33_20 hR, ar_46, ln_46, rg_33_23 hR, ar_47, ln_47, rg_33_24 hR, ar_48, ln_48, rg_33_25 hR, ar_49, ln_49, rg_33_26 hR, ar_50, ln_50, rg_33_27 hR, ar_51, ln_51, rg_33_28 hR, ar_52, ln_52, rg_33_29 hR, ar_53, ln_53, rg_33_30 hR, ar_54, ln_54, rg_33_39 hR, ar_55, ln_55, rg_33_40 hR, ar_56, ln_56, rg_33_41 hR, ar_57, ln_57, rg_33_42 hR, ar_58, ln_58, rg_33_43 hR, ar_59, ln_59, rg_33_44 hR, ar_60, ln_60, rg_33_45 hR, ar_61, ln_61, rg_33_48 hR, ar_62, ln_62, rg_33_49 hR, ar_63, ln_63, rg_33_50 hR, ar_64, ln_64, rg_33_56 hR, ar_65, ln_65, rg_33_57 hR, ar_66, ln_66, rg_33_58 hR, ar_67, ln_67, rg_33_59 hR, ar_68, ln_68, rg_33_66 hR, ar_69, ln_69, rg_33_67 hR, ar_70, ln_70, rt_in_nI, Option.isSome_some, Option.getD_some, Bool.or_true, Bool.true_or]; done) | fail) only [e_X10_wordNumber_15, e_X10_wordNumber_17, q29, q_le, c2, if_true, kx]
  | succ f ih =>
    intro k h
    have c1 : ¬ 29 ≤ k := by omega
    have o4 := h4 k (by omega)
    have hi := ih (k + 1) (by omega)
    rw [e_X10_wordNumber_14, kx]
    by_cases hw : in_W.getD k 0 = key
    · rw [if_pos hw]
      simp (disch := first | exact rt_bo_0 | exact rt_bo_1 | exact ns_float | exact ns_int | exact ns_ref | assumption | omega | (simp (disch := omega) only [ob_33, rg_33_2 hR, ar_34, ln_34, rg_33_3 hR, ar_35, ln_35, rg_33_4 hR, ar_36, ln_36, rg_33_5 hR, ar_37, ln_37, rg_33_6 hR, ar_38, ln_38, rg_33_7 hR, ar_39, ln_39, rg_33_8 hR, ar_40, ln_40, rg_33_9 hR, ar_41, ln_41, rg_33_10 hR, ar_42, ln_42, rg_33_11 hR, ar_43, ln_43, rg_33_12 hR, ar_44, ln_44, rg_33_19 hR, ar_45, ln_45, rg_33_20 hR, ar_46, ln_46, rg_33_23 hR, ar_47, ln_47, rg_33_24 hR, ar_48, ln_48, rg_33_25 hR, ar_49, ln_49, rg_33_26 hR, ar_50, ln_50, rg_33_27 hR, ar_51, ln_51, rg_33_28 hR, ar_52, ln_52, rg_33_29 hR, ar_53, ln_53, rg_33_30 hR, ar_54, ln_54, rg_33_39 hR, ar_55, ln_55, rg_33_40 hR, ar_56, ln_56, rg_33_41 hR, ar_57, ln_57, rg_33_42 hR, ar_58, ln_58, rg_33_43 hR, ar_59, ln_59, rg_33_44 hR, ar_60, ln_60, rg_33_45 hR, ar_61, ln_61, rg_33_48 hR, ar_62, ln_62, rg_33_49 hR, ar_63, ln_63, rg_33_50 hR, ar_64, ln_64, rg_33_56 hR, ar_65, ln_65, rg_33_57 hR, ar_66, ln_66, rg_33_58 hR, ar_67, ln_67, rg_33_59 hR, ar_68, ln_68, rg_33_66 hR, ar_69, ln_69, rg_33_67 hR, ar_70, ln_70, rt_in_nI, Option.isSome_some, Option.getD_some, Bool.or_true, Bool.true_or]; done) | fail) only [e_X10_wordNumber_0, e_X10_wordNumber_1, e_X10_wordNumber_4, e_X10_wordNumber_6, e_X10_wordNumber_9, e_X10_wordNumber_11, e_X10_wordNumber_12, e_X10_wordNumber_13, e_X10_wordNumber_15, e_X10_wordNumber_17, e_X10_wordNumber_20, e_X10_wordNumber_21, e_X10_wordNumber_24, e_X10_wordNumber_25, e_X10_wordNumber_26, e_X10_wordNumber_27, e_X10_wordNumber_30, e_X10_wordNumber_31, e_X10_wordNumber_34, e_X10_wordNumber_35, e_X10_wordNumber_36, e_X10_wordNumber_39, e_X10_wordNumber_43, e_X10_wordNumber_45, e_X10_wordNumber_46, e_X10_wordNumber_49, e_X10_wordNumber_52, e_X10_wordNumber_53, e_X10_wordNumber_56, e_X10_wordNumber_57, e_X10_wordNumber_58, e_X10_wordNumber_59, e_X10_wordNumber_62, e_X10_wordNumber_63, e_X10_wordNumber_66, e_X10_wordNumber_68, e_X10_wordNumber_69, e_X10_wordNumber_70, e_X10_wordNumber_71, e_X10_wordNumber_74, e_X10_wordNumber_77, e_X10_wordNumber_79, rg_33_19 hR, q29, q_le, c1, nI_cl, o4, hk, lgc0, hw, if_true, if_false, Option.getD_some, Option.bind_some, Option.toList_some, Option.toList_none, List.cons_append, List.nil_append]
    · rw [if_neg hw]
      simp (disch := first | exact rt_bo_0 | exact rt_bo_1 | exact ns_float | exact ns_int | exact ns_ref | assumption | omega | (simp (disch := omega) only [ob_33, rg_33_2 hR, ar_34, ln_34, rg_33_3 hR, ar_35, ln_35, rg_33_4 hR, ar_36, ln_36, rg_33_5 hR, ar_37, ln_37, rg_33_6 hR, ar_38, ln_38, rg_33_7 hR, ar_39, ln_39, rg_33_8 hR, ar_40, ln_40, rg_33_9 hR, ar_41, ln_41, rg_33_10 hR, ar_42, ln_42, rg_33_11 hR, ar_43, ln_43, rg_33_12 hR, ar_44, ln_44, rg_33_19 hR, ar_45, ln_45, rg_33_20 hR, ar_46, ln_46, rg_33_23 hR, ar_47, ln_47, rg_33_24 hR, ar_48, ln_48, rg_33_25 hR, ar_49, ln_49, rg_33_26 hR, ar_50, ln_50, rg_33_27 hR, ar_51, ln_51, rg_33_28 hR, ar_52, ln_52, rg_33_29 hR, ar_53, ln_53, rg_33_30 hR, ar_54, ln_54, rg_33_39 hR, ar_55, ln_55, rg_33_40 hR, ar_56, ln_56, rg_33_41 hR, ar_57, ln_57, rg_33_42 hR, ar_58, ln_58, rg_33_43 hR, ar_59, ln_59, rg_33_44 hR, ar_60, ln_60, rg_33_45 hR, ar_61, ln_61, rg_33_48 hR, ar_62, ln_62, rg_33_49 hR, ar_63, ln_63, rg_33_50 hR, ar_64, ln_64, rg_33_56 hR, ar_65, ln_65, rg_33_57 hR, ar_66, ln_66, rg_33_58 hR, ar_67, ln_67, rg_33_59 hR, ar_68, ln_68, rg_33_66 hR, ar_69, ln_69, rg_33_67 hR, ar_70, ln_70, rt_in_nI, Option.isSome_some, Option.getD_some, Bool.or_true, Bool.true_or]; done) | fail) only [e_X10_wordNumber_0, e_X10_wordNumber_1, e_X10_wordNumber_4, e_X10_wordNumber_6, e_X10_wordNumber_9, e_X10_wordNumber_11, e_X10_wordNumber_12, e_X10_wordNumber_13, e_X10_wordNumber_15, e_X10_wordNumber_17, e_X10_wordNumber_20, e_X10_wordNumber_21, e_X10_wordNumber_24, e_X10_wordNumber_25, e_X10_wordNumber_26, e_X10_wordNumber_27, e_X10_wordNumber_30, e_X10_wordNumber_31, e_X10_wordNumber_34, e_X10_wordNumber_35, e_X10_wordNumber_36, e_X10_wordNumber_39, e_X10_wordNumber_43, e_X10_wordNumber_45, e_X10_wordNumber_46, e_X10_wordNumber_49, e_X10_wordNumber_52, e_X10_wordNumber_53, e_X10_wordNumber_56, e_X10_wordNumber_57, e_X10_wordNumber_58, e_X10_wordNumber_59, e_X10_wordNumber_62, e_X10_wordNumber_63, e_X10_wordNumber_66, e_X10_wordNumber_68, e_X10_wordNumber_69, e_X10_wordNumber_70, e_X10_wordNumber_71, e_X10_wordNumber_74, e_X10_wordNumber_77, e_X10_wordNumber_79, rg_33_19 hR, q29, q_le, c1, nI_cl, o4, hk, lgc0, hw, q_s, if_true, if_false, Option.getD_some, Option.bind_some, Option.toList_some, Option.toList_none, List.cons_append, List.nil_append]
      exact hi
theorem tix_len : ∀ f k, (∀ j, j < k + f → (wl j).length ≤ 10) → 10 < ws.length → tix wl ws k f = none := by
  intro f
  induction f with
  | zero => intro k _ _; rfl
  | succ f ih =>
    intro k h h2
    rw [tix, if_neg (fun hh => by have := h k (by omega); rw [hh] at this; omega)]
    exact ih (k + 1) (fun j hj => h j (by omega)) h2
theorem fnd_long (hW : ∀ j, j < nw → (wl j).length ≤ 10) (h : 10 < ws.length) : fnd wl nw ws = none := by
  unfold fnd
  cases hi : ixw ws 0 bW with
  | some c =>
    obtain ⟨h1, h2⟩ := ixw_some hi
    have := (bW_ok c h1).1
    rw [h2] at this
    omega
  | none => exact tix_len nw 0 (fun j hj => hW j (by omega)) h
theorem m_wordNumber (hR : RG R a b) (hW : WM I L nw wl) {l : Nat} (h18 : I 33 18 = nI l) (hl : l < 1000) (hlen : ws.length = l) (h4 : ∀ c, c ∈ ws → 97 ≤ c ∧ c ≤ 122) (hk : l ≤ 10 → L 33 21 = lN (kyN ws)) : Ev mX10_wordNumber 0 [.ref 33, .float 0] [] (71 + e, I, L, R) = some (some (.int (nI (oW (fnd wl nw ws)))), (71 + e, I, L, R)) := by
  have q10 : (10 : Int32) = nI 10 := rfl
  by_cases h : l ≤ 10
  · have h1 := m_wn_1 (e := e) (I := I) hR hW.2.2.2 (hk h) 29 0 rfl
    have h2 := m_wn_2 (e := e) hR hW (by omega) h4 (hk h) nw 0 (by omega)
    rw [kx_ixw (by omega) h4, nI_0] at h1
    rw [nI_0] at h2
    have hst : Ev mX10_wordNumber 0 [.ref 33, .float 0] [] (71 + e, I, L, R) = Ev mX10_wordNumber 14 [.ref 33, .int 0] [] (71 + e, I, L, R) := by
      simp (disch := first | exact rt_bo_0 | exact rt_bo_1 | exact ns_float | exact ns_int | exact ns_ref | assumption | omega | (simp (disch := omega) only [ob_33, rg_33_2 hR, ar_34, ln_34, rg_33_3 hR, ar_35, ln_35, rg_33_4 hR, ar_36, ln_36, rg_33_5 hR, ar_37, ln_37, rg_33_6 hR, ar_38, ln_38, rg_33_7 hR, ar_39, ln_39, rg_33_8 hR, ar_40, ln_40, rg_33_9 hR, ar_41, ln_41, rg_33_10 hR, ar_42, ln_42, rg_33_11 hR, ar_43, ln_43, rg_33_12 hR, ar_44, ln_44, rg_33_19 hR, ar_45, ln_45, rg_33_20 hR, ar_46, ln_46, rg_33_23 hR, ar_47, ln_47, rg_33_24 hR, ar_48, ln_48, rg_33_25 hR, ar_49, ln_49, rg_33_26 hR, ar_50, ln_50, rg_33_27 hR, ar_51, ln_51, rg_33_28 hR, ar_52, ln_52, rg_33_29 hR, ar_53, ln_53, rg_33_30 hR, ar_54, ln_54, rg_33_39 hR, ar_55, ln_55, rg_33_40 hR, ar_56, ln_56, rg_33_41 hR, ar_57, ln_57, rg_33_42 hR, ar_58, ln_58, rg_33_43 hR, ar_59, ln_59, rg_33_44 hR, ar_60, ln_60, rg_33_45 hR, ar_61, ln_61, rg_33_48 hR, ar_62, ln_62, rg_33_49 hR, ar_63, ln_63, rg_33_50 hR, ar_64, ln_64, rg_33_56 hR, ar_65, ln_65, rg_33_57 hR, ar_66, ln_66, rg_33_58 hR, ar_67, ln_67, rg_33_59 hR, ar_68, ln_68, rg_33_66 hR, ar_69, ln_69, rg_33_67 hR, ar_70, ln_70, rt_in_nI, Option.isSome_some, Option.getD_some, Bool.or_true, Bool.true_or]; done) | fail) only [e_X10_wordNumber_0, e_X10_wordNumber_1, e_X10_wordNumber_4, e_X10_wordNumber_6, e_X10_wordNumber_9, e_X10_wordNumber_11, e_X10_wordNumber_12, e_X10_wordNumber_13, e_X10_wordNumber_15, e_X10_wordNumber_17, e_X10_wordNumber_20, e_X10_wordNumber_21, e_X10_wordNumber_24, e_X10_wordNumber_25, e_X10_wordNumber_26, e_X10_wordNumber_27, e_X10_wordNumber_30, e_X10_wordNumber_31, e_X10_wordNumber_34, e_X10_wordNumber_35, e_X10_wordNumber_36, e_X10_wordNumber_39, e_X10_wordNumber_42, e_X10_wordNumber_43, e_X10_wordNumber_44, e_X10_wordNumber_45, e_X10_wordNumber_46, e_X10_wordNumber_49, e_X10_wordNumber_52, e_X10_wordNumber_53, e_X10_wordNumber_56, e_X10_wordNumber_57, e_X10_wordNumber_58, e_X10_wordNumber_59, e_X10_wordNumber_62, e_X10_wordNumber_63, e_X10_wordNumber_66, e_X10_wordNumber_68, e_X10_wordNumber_69, e_X10_wordNumber_70, e_X10_wordNumber_71, e_X10_wordNumber_74, e_X10_wordNumber_77, e_X10_wordNumber_79, h18, q10, q_le, h, if_true]
    rw [hst, h1]
    unfold fnd
    cases hi : ixw ws 0 bW with
    | some c => rfl
    | none =>
      show Ev mX10_wordNumber 42 [.ref 33, .int (nI 29)] [] (71 + e, I, L, R) = _
      simp (disch := first | exact rt_bo_0 | exact rt_bo_1 | exact ns_float | exact ns_int | exact ns_ref | assumption | omega | (simp (disch := omega) only [ob_33, rg_33_2 hR, ar_34, ln_34, rg_33_3 hR, ar_35, ln_35, rg_33_4 hR, ar_36, ln_36, rg_33_5 hR, ar_37, ln_37, rg_33_6 hR, ar_38, ln_38, rg_33_7 hR, ar_39, ln_39, rg_33_8 hR, ar_40, ln_40, rg_33_9 hR, ar_41, ln_41, rg_33_10 hR, ar_42, ln_42, rg_33_11 hR, ar_43, ln_43, rg_33_12 hR, ar_44, ln_44, rg_33_19 hR, ar_45, ln_45, rg_33_20 hR, ar_46, ln_46, rg_33_23 hR, ar_47, ln_47, rg_33_24 hR, ar_48, ln_48, rg_33_25 hR, ar_49, ln_49, rg_33_26 hR, ar_50, ln_50, rg_33_27 hR, ar_51, ln_51, rg_33_28 hR, ar_52, ln_52, rg_33_29 hR, ar_53, ln_53, rg_33_30 hR, ar_54, ln_54, rg_33_39 hR, ar_55, ln_55, rg_33_40 hR, ar_56, ln_56, rg_33_41 hR, ar_57, ln_57, rg_33_42 hR, ar_58, ln_58, rg_33_43 hR, ar_59, ln_59, rg_33_44 hR, ar_60, ln_60, rg_33_45 hR, ar_61, ln_61, rg_33_48 hR, ar_62, ln_62, rg_33_49 hR, ar_63, ln_63, rg_33_50 hR, ar_64, ln_64, rg_33_56 hR, ar_65, ln_65, rg_33_57 hR, ar_66, ln_66, rg_33_58 hR, ar_67, ln_67, rg_33_59 hR, ar_68, ln_68, rg_33_66 hR, ar_69, ln_69, rg_33_67 hR, ar_70, ln_70, rt_in_nI, Option.isSome_some, Option.getD_some, Bool.or_true, Bool.true_or]; done) | fail) only [e_X10_wordNumber_0, e_X10_wordNumber_1, e_X10_wordNumber_4, e_X10_wordNumber_6, e_X10_wordNumber_9, e_X10_wordNumber_11, e_X10_wordNumber_12, e_X10_wordNumber_13, e_X10_wordNumber_15, e_X10_wordNumber_17, e_X10_wordNumber_20, e_X10_wordNumber_21, e_X10_wordNumber_24, e_X10_wordNumber_25, e_X10_wordNumber_26, e_X10_wordNumber_27, e_X10_wordNumber_30, e_X10_wordNumber_31, e_X10_wordNumber_34, e_X10_wordNumber_35, e_X10_wordNumber_36, e_X10_wordNumber_39, e_X10_wordNumber_42, e_X10_wordNumber_43, e_X10_wordNumber_45, e_X10_wordNumber_46, e_X10_wordNumber_49, e_X10_wordNumber_52, e_X10_wordNumber_53, e_X10_wordNumber_56, e_X10_wordNumber_57, e_X10_wordNumber_58, e_X10_wordNumber_59, e_X10_wordNumber_62, e_X10_wordNumber_63, e_X10_wordNumber_66, e_X10_wordNumber_68, e_X10_wordNumber_69, e_X10_wordNumber_70, e_X10_wordNumber_71, e_X10_wordNumber_74, e_X10_wordNumber_77, e_X10_wordNumber_79, h2]
  · rw [fnd_long (fun j hj => ((hW.2.2.1 j hj).1).2.1) (by omega)]
    simp (disch := first | exact rt_bo_0 | exact rt_bo_1 | exact ns_float | exact ns_int | exact ns_ref | assumption | omega | (simp (disch := omega) only [ob_33, rg_33_2 hR, ar_34, ln_34, rg_33_3 hR, ar_35, ln_35, rg_33_4 hR, ar_36, ln_36, rg_33_5 hR, ar_37, ln_37, rg_33_6 hR, ar_38, ln_38, rg_33_7 hR, ar_39, ln_39, rg_33_8 hR, ar_40, ln_40, rg_33_9 hR, ar_41, ln_41, rg_33_10 hR, ar_42, ln_42, rg_33_11 hR, ar_43, ln_43, rg_33_12 hR, ar_44, ln_44, rg_33_19 hR, ar_45, ln_45, rg_33_20 hR, ar_46, ln_46, rg_33_23 hR, ar_47, ln_47, rg_33_24 hR, ar_48, ln_48, rg_33_25 hR, ar_49, ln_49, rg_33_26 hR, ar_50, ln_50, rg_33_27 hR, ar_51, ln_51, rg_33_28 hR, ar_52, ln_52, rg_33_29 hR, ar_53, ln_53, rg_33_30 hR, ar_54, ln_54, rg_33_39 hR, ar_55, ln_55, rg_33_40 hR, ar_56, ln_56, rg_33_41 hR, ar_57, ln_57, rg_33_42 hR, ar_58, ln_58, rg_33_43 hR, ar_59, ln_59, rg_33_44 hR, ar_60, ln_60, rg_33_45 hR, ar_61, ln_61, rg_33_48 hR, ar_62, ln_62, rg_33_49 hR, ar_63, ln_63, rg_33_50 hR, ar_64, ln_64, rg_33_56 hR, ar_65, ln_65, rg_33_57 hR, ar_66, ln_66, rg_33_58 hR, ar_67, ln_67, rg_33_59 hR, ar_68, ln_68, rg_33_66 hR, ar_69, ln_69, rg_33_67 hR, ar_70, ln_70, rt_in_nI, Option.isSome_some, Option.getD_some, Bool.or_true, Bool.true_or]; done) | fail) only [e_X10_wordNumber_0, e_X10_wordNumber_1, e_X10_wordNumber_4, e_X10_wordNumber_6, e_X10_wordNumber_9, e_X10_wordNumber_11, e_X10_wordNumber_12, e_X10_wordNumber_13, e_X10_wordNumber_15, e_X10_wordNumber_17, e_X10_wordNumber_20, e_X10_wordNumber_21, e_X10_wordNumber_24, e_X10_wordNumber_25, e_X10_wordNumber_26, e_X10_wordNumber_27, e_X10_wordNumber_30, e_X10_wordNumber_31, e_X10_wordNumber_34, e_X10_wordNumber_35, e_X10_wordNumber_36, e_X10_wordNumber_39, e_X10_wordNumber_42, e_X10_wordNumber_43, e_X10_wordNumber_45, e_X10_wordNumber_46, e_X10_wordNumber_49, e_X10_wordNumber_52, e_X10_wordNumber_53, e_X10_wordNumber_56, e_X10_wordNumber_57, e_X10_wordNumber_58, e_X10_wordNumber_59, e_X10_wordNumber_62, e_X10_wordNumber_63, e_X10_wordNumber_66, e_X10_wordNumber_68, e_X10_wordNumber_69, e_X10_wordNumber_70, e_X10_wordNumber_71, e_X10_wordNumber_74, e_X10_wordNumber_77, e_X10_wordNumber_79, h18, q10, q_le, h, if_false]
    rfl
/-- means stands as a word from s on -/
def mst (t : Nat → Nat) (n s : Nat) : Bool := decide (s + 5 ≤ n) && (decide (s + 5 = n) || decide (t (s + 5) = 32)) && decide (txt t s (s + 5) = bW.getD 17 [])
theorem m_imn_l (hR : RG R a b) (hX : TM I n t) (hs : s ≤ 101) : ∀ f j, j + f = 6 → (∀ i, i < j → s + i < n ∧ ltr (t (s + i)) = true) → ∃ j2, j ≤ j2 ∧ j2 ≤ 6 ∧ (∀ i, i < j2 → s + i < n ∧ ltr (t (s + i)) = true) ∧ (j2 < 6 → ¬ (s + j2 < n ∧ ltr (t (s + j2)) = true)) ∧ Ev mX10_isMeansNext 11 [.ref 33, .int (nI s), .int (nI j), .long (lN (kyN (txt t s (s + j)))), .double 0] [] (71 + e, I, L, R) = Ev mX10_isMeansNext 56 [.ref 33, .int (nI s), .int (nI j2), .long (lN (kyN (txt t s (s + j2)))), .double 0] [] (71 + e, I, L, R) := by
  have x1 := hX.1
  have nsl : ∀ y : Int64, rt_ns (.long y) = true := fun _ => rfl
  have q6 : (6 : Int32) = nI 6 := rfl
  intro f
  induction f with
  | zero =>
    intro j hj hi
    have hj6 : j = 6 := by omega
    subst hj6
    refine ⟨6, by omega, by omega, hi, fun h => by omega, ?_⟩
    have hl := m_isL (e := e) (L := L) (p := s + 6) hR hX (by omega)
    have c6 : (6 : Nat) ≤ 6 := by decide
    rw [e_X10_isMeansNext_11]
    cases hb : (decide (s + 6 < n) && ltr (t (s + 6))) with
    | false =>
      rw [hb, show b01 false = 0 from rfl] at hl
      simp (disch := first | exact rt_bo_0 | exact rt_bo_1 | exact ns_float | exact ns_int | exact ns_ref | assumption | omega | (simp (disch := omega) only [ob_33, rg_33_2 hR, ar_34, ln_34, rg_33_3 hR, ar_35, ln_35, rg_33_4 hR, ar_36, ln_36, rg_33_5 hR, ar_37, ln_37, rg_33_6 hR, ar_38, ln_38, rg_33_7 hR, ar_39, ln_39, rg_33_8 hR, ar_40, ln_40, rg_33_9 hR, ar_41, ln_41, rg_33_10 hR, ar_42, ln_42, rg_33_11 hR, ar_43, ln_43, rg_33_12 hR, ar_44, ln_44, rg_33_19 hR, ar_45, ln_45, rg_33_20 hR, ar_46, ln_46, rg_33_23 hR, ar_47, ln_47, rg_33_24 hR, ar_48, ln_48, rg_33_25 hR, ar_49, ln_49, rg_33_26 hR, ar_50, ln_50, rg_33_27 hR, ar_51, ln_51, rg_33_28 hR, ar_52, ln_52, rg_33_29 hR, ar_53, ln_53, rg_33_30 hR, ar_54, ln_54, rg_33_39 hR, ar_55, ln_55, rg_33_40 hR, ar_56, ln_56, rg_33_41 hR, ar_57, ln_57, rg_33_42 hR, ar_58, ln_58, rg_33_43 hR, ar_59, ln_59, rg_33_44 hR, ar_60, ln_60, rg_33_45 hR, ar_61, ln_61, rg_33_48 hR, ar_62, ln_62, rg_33_49 hR, ar_63, ln_63, rg_33_50 hR, ar_64, ln_64, rg_33_56 hR, ar_65, ln_65, rg_33_57 hR, ar_66, ln_66, rg_33_58 hR, ar_67, ln_67, rg_33_59 hR, ar_68, ln_68, rg_33_66 hR, ar_69, ln_69, rg_33_67 hR, ar_70, ln_70, nsl, rt_in_nI, Option.isSome_some, Option.getD_some, Bool.or_true, Bool.true_or]; done) | fail) only [e_X10_isMeansNext_12, e_X10_isMeansNext_13, e_X10_isMeansNext_14, e_X10_isMeansNext_15, e_X10_isMeansNext_18, nI_add, hl, q_00, if_true, Option.getD_some, Option.bind_some, Option.toList_some, Option.toList_none, List.cons_append, List.nil_append]
    | true =>
      rw [hb, show b01 true = 1 from rfl] at hl
      simp (disch := first | exact rt_bo_0 | exact rt_bo_1 | exact ns_float | exact ns_int | exact ns_ref | assumption | omega | (simp (disch := omega) only [ob_33, rg_33_2 hR, ar_34, ln_34, rg_33_3 hR, ar_35, ln_35, rg_33_4 hR, ar_36, ln_36, rg_33_5 hR, ar_37, ln_37, rg_33_6 hR, ar_38, ln_38, rg_33_7 hR, ar_39, ln_39, rg_33_8 hR, ar_40, ln_40, rg_33_9 hR, ar_41, ln_41, rg_33_10 hR, ar_42, ln_42, rg_33_11 hR, ar_43, ln_43, rg_33_12 hR, ar_44, ln_44, rg_33_19 hR, ar_45, ln_45, rg_33_20 hR, ar_46, ln_46, rg_33_23 hR, ar_47, ln_47, rg_33_24 hR, ar_48, ln_48, rg_33_25 hR, ar_49, ln_49, rg_33_26 hR, ar_50, ln_50, rg_33_27 hR, ar_51, ln_51, rg_33_28 hR, ar_52, ln_52, rg_33_29 hR, ar_53, ln_53, rg_33_30 hR, ar_54, ln_54, rg_33_39 hR, ar_55, ln_55, rg_33_40 hR, ar_56, ln_56, rg_33_41 hR, ar_57, ln_57, rg_33_42 hR, ar_58, ln_58, rg_33_43 hR, ar_59, ln_59, rg_33_44 hR, ar_60, ln_60, rg_33_45 hR, ar_61, ln_61, rg_33_48 hR, ar_62, ln_62, rg_33_49 hR, ar_63, ln_63, rg_33_50 hR, ar_64, ln_64, rg_33_56 hR, ar_65, ln_65, rg_33_57 hR, ar_66, ln_66, rg_33_58 hR, ar_67, ln_67, rg_33_59 hR, ar_68, ln_68, rg_33_66 hR, ar_69, ln_69, rg_33_67 hR, ar_70, ln_70, nsl, rt_in_nI, Option.isSome_some, Option.getD_some, Bool.or_true, Bool.true_or]; done) | fail) only [e_X10_isMeansNext_12, e_X10_isMeansNext_13, e_X10_isMeansNext_14, e_X10_isMeansNext_15, e_X10_isMeansNext_18, e_X10_isMeansNext_21, e_X10_isMeansNext_22, e_X10_isMeansNext_24, nI_add, hl, q_10, q6, q_le, c6, if_true, if_false, Option.getD_some, Option.bind_some, Option.toList_some, Option.toList_none, List.cons_append, List.nil_append]
  | succ f ih =>
    intro j hj hi
    have hl := m_isL (e := e) (L := L) (p := s + j) hR hX (by omega)
    rw [e_X10_isMeansNext_11]
    cases hb : (decide (s + j < n) && ltr (t (s + j))) with
    | false =>
      rw [hb, show b01 false = 0 from rfl] at hl
      refine ⟨j, by omega, by omega, hi, fun _ h => ?_, ?_⟩
      · rw [h.2, decide_eq_true h.1] at hb; cases hb
      · simp (disch := first | exact rt_bo_0 | exact rt_bo_1 | exact ns_float | exact ns_int | exact ns_ref | assumption | omega | (simp (disch := omega) only [ob_33, rg_33_2 hR, ar_34, ln_34, rg_33_3 hR, ar_35, ln_35, rg_33_4 hR, ar_36, ln_36, rg_33_5 hR, ar_37, ln_37, rg_33_6 hR, ar_38, ln_38, rg_33_7 hR, ar_39, ln_39, rg_33_8 hR, ar_40, ln_40, rg_33_9 hR, ar_41, ln_41, rg_33_10 hR, ar_42, ln_42, rg_33_11 hR, ar_43, ln_43, rg_33_12 hR, ar_44, ln_44, rg_33_19 hR, ar_45, ln_45, rg_33_20 hR, ar_46, ln_46, rg_33_23 hR, ar_47, ln_47, rg_33_24 hR, ar_48, ln_48, rg_33_25 hR, ar_49, ln_49, rg_33_26 hR, ar_50, ln_50, rg_33_27 hR, ar_51, ln_51, rg_33_28 hR, ar_52, ln_52, rg_33_29 hR, ar_53, ln_53, rg_33_30 hR, ar_54, ln_54, rg_33_39 hR, ar_55, ln_55, rg_33_40 hR, ar_56, ln_56, rg_33_41 hR, ar_57, ln_57, rg_33_42 hR, ar_58, ln_58, rg_33_43 hR, ar_59, ln_59, rg_33_44 hR, ar_60, ln_60, rg_33_45 hR, ar_61, ln_61, rg_33_48 hR, ar_62, ln_62, rg_33_49 hR, ar_63, ln_63, rg_33_50 hR, ar_64, ln_64, rg_33_56 hR, ar_65, ln_65, rg_33_57 hR, ar_66, ln_66, rg_33_58 hR, ar_67, ln_67, rg_33_59 hR, ar_68, ln_68, rg_33_66 hR, ar_69, ln_69, rg_33_67 hR, ar_70, ln_70, nsl, rt_in_nI, Option.isSome_some, Option.getD_some, Bool.or_true, Bool.true_or]; done) | fail) only [e_X10_isMeansNext_12, e_X10_isMeansNext_13, e_X10_isMeansNext_14, e_X10_isMeansNext_15, e_X10_isMeansNext_18, nI_add, hl, q_00, if_true, Option.getD_some, Option.bind_some, Option.toList_some, Option.toList_none, List.cons_append, List.nil_append]
    | true =>
      rw [hb, show b01 true = 1 from rfl] at hl
      rw [Bool.and_eq_true, decide_eq_true_iff] at hb
      obtain ⟨j2, g1, g2, g3, g4, g5⟩ := ih (j + 1) (by omega) (fun i h => by
        by_cases e1 : i = j
        · rw [e1]; exact hb
        · exact hi i (by omega))
      refine ⟨j2, by omega, g2, g3, g4, ?_⟩
      have hb3 := ltr_iff.mp hb.2
      have h44 : I 44 (s + j) = nI (t (s + j)) := by rw [hX.2.2.1 _ hb.1, (sgb_all _ (hX.2.2.2 _ hb.1)).1 hb.2]
      have c6 : ¬ 6 ≤ j := by omega
      rw [← g5, ← Nat.add_assoc, txt_snoc (by omega), kyN_snoc, ← l_key hb3.1 hb3.2]
      simp (disch := first | exact rt_bo_0 | exact rt_bo_1 | exact ns_float | exact ns_int | exact ns_ref | assumption | omega | (simp (disch := omega) only [ob_33, rg_33_2 hR, ar_34, ln_34, rg_33_3 hR, ar_35, ln_35, rg_33_4 hR, ar_36, ln_36, rg_33_5 hR, ar_37, ln_37, rg_33_6 hR, ar_38, ln_38, rg_33_7 hR, ar_39, ln_39, rg_33_8 hR, ar_40, ln_40, rg_33_9 hR, ar_41, ln_41, rg_33_10 hR, ar_42, ln_42, rg_33_11 hR, ar_43, ln_43, rg_33_12 hR, ar_44, ln_44, rg_33_19 hR, ar_45, ln_45, rg_33_20 hR, ar_46, ln_46, rg_33_23 hR, ar_47, ln_47, rg_33_24 hR, ar_48, ln_48, rg_33_25 hR, ar_49, ln_49, rg_33_26 hR, ar_50, ln_50, rg_33_27 hR, ar_51, ln_51, rg_33_28 hR, ar_52, ln_52, rg_33_29 hR, ar_53, ln_53, rg_33_30 hR, ar_54, ln_54, rg_33_39 hR, ar_55, ln_55, rg_33_40 hR, ar_56, ln_56, rg_33_41 hR, ar_57, ln_57, rg_33_42 hR, ar_58, ln_58, rg_33_43 hR, ar_59, ln_59, rg_33_44 hR, ar_60, ln_60, rg_33_45 hR, ar_61, ln_61, rg_33_48 hR, ar_62, ln_62, rg_33_49 hR, ar_63, ln_63, rg_33_50 hR, ar_64, ln_64, rg_33_56 hR, ar_65, ln_65, rg_33_57 hR, ar_66, ln_66, rg_33_58 hR, ar_67, ln_67, rg_33_59 hR, ar_68, ln_68, rg_33_66 hR, ar_69, ln_69, rg_33_67 hR, ar_70, ln_70, nsl, rt_in_nI, Option.isSome_some, Option.getD_some, Bool.or_true, Bool.true_or]; done) | fail) only [e_X10_isMeansNext_0, e_X10_isMeansNext_1, e_X10_isMeansNext_4, e_X10_isMeansNext_5, e_X10_isMeansNext_6, e_X10_isMeansNext_7, e_X10_isMeansNext_8, e_X10_isMeansNext_9, e_X10_isMeansNext_10, e_X10_isMeansNext_12, e_X10_isMeansNext_13, e_X10_isMeansNext_14, e_X10_isMeansNext_15, e_X10_isMeansNext_18, e_X10_isMeansNext_21, e_X10_isMeansNext_22, e_X10_isMeansNext_24, e_X10_isMeansNext_27, e_X10_isMeansNext_28, e_X10_isMeansNext_31, e_X10_isMeansNext_32, e_X10_isMeansNext_33, e_X10_isMeansNext_36, e_X10_isMeansNext_37, e_X10_isMeansNext_38, e_X10_isMeansNext_39, e_X10_isMeansNext_40, e_X10_isMeansNext_41, e_X10_isMeansNext_42, e_X10_isMeansNext_45, e_X10_isMeansNext_46, e_X10_isMeansNext_47, e_X10_isMeansNext_48, e_X10_isMeansNext_49, e_X10_isMeansNext_50, e_X10_isMeansNext_51, e_X10_isMeansNext_52, e_X10_isMeansNext_53, e_X10_isMeansNext_56, e_X10_isMeansNext_57, e_X10_isMeansNext_58, e_X10_isMeansNext_61, e_X10_isMeansNext_62, e_X10_isMeansNext_63, e_X10_isMeansNext_66, e_X10_isMeansNext_68, e_X10_isMeansNext_69, e_X10_isMeansNext_70, e_X10_isMeansNext_73, e_X10_isMeansNext_74, e_X10_isMeansNext_75, e_X10_isMeansNext_76, e_X10_isMeansNext_77, e_X10_isMeansNext_80, e_X10_isMeansNext_83, e_X10_isMeansNext_84, e_X10_isMeansNext_87, e_X10_isMeansNext_88, e_X10_isMeansNext_89, e_X10_isMeansNext_90, e_X10_isMeansNext_91, e_X10_isMeansNext_93, e_X10_isMeansNext_96, e_X10_isMeansNext_97, e_X10_isMeansNext_100, e_X10_isMeansNext_101, rg_33_12 hR, nI_cl, h44, nI_add, hl, q_10, q6, q_le, q_s, c6, if_true, if_false, Option.getD_some, Option.bind_some, Option.toList_some, Option.toList_none, List.cons_append, List.nil_append]
theorem txt_ltr (h : ∀ i, s ≤ i → i < en → ltr (t i) = true) : ∀ c, c ∈ txt t s en → 97 ≤ c ∧ c ≤ 122 := by
  intro c hc
  unfold txt at hc
  rw [List.mem_map] at hc
  obtain ⟨i, h1, rfl⟩ := hc
  rw [List.mem_range] at h1
  exact ltr_iff.mp (h _ (by omega) (by omega))
theorem m_isMeansNext (hR : RG R a b) (hX : TM I n t) (h45 : ∀ k, k < 29 → L 45 k = in_W.getD k 0) (h17 : I 33 17 = nI en) (hen : en ≤ n) : Ev mX10_isMeansNext 0 [.ref 33, .float 0, .float 0, .float 0, .float 0] [] (71 + e, I, L, R) = some (some (.int (b01 (mst t n (en + 1)))), (71 + e, I, L, R)) := by
  have x1 := hX.1
  have nsl : ∀ y : Int64, rt_ns (.long y) = true := fun _ => rfl
  have q5 : (5 : Int32) = nI 5 := rfl
  have q6 : (6 : Int32) = nI 6 := rfl
  have h45' : L 45 6 = lN (kyN (bW.getD 17 [])) := by rw [h45 6 (by decide)]; exact (bW_ok 17 (by decide)).2.2.1
  obtain ⟨j, g1, g2, g3, g4, g5⟩ := m_imn_l (e := e) (L := L) (s := en + 1) hR hX (by omega) 6 0 rfl (fun i h => by omega)
  have hst : Ev mX10_isMeansNext 0 [.ref 33, .float 0, .float 0, .float 0, .float 0] [] (71 + e, I, L, R) = Ev mX10_isMeansNext 11 [.ref 33, .int (nI (en + 1)), .int (nI 0), .long (lN (kyN (txt t (en + 1) (en + 1 + 0)))), .double 0] [] (71 + e, I, L, R) := by
    rw [Nat.add_zero, txt_nil, nI_0, show lN (kyN []) = 0 from rfl]
    simp (disch := first | exact rt_bo_0 | exact rt_bo_1 | exact ns_float | exact ns_int | exact ns_ref | assumption | omega | (simp (disch := omega) only [ob_33, rg_33_2 hR, ar_34, ln_34, rg_33_3 hR, ar_35, ln_35, rg_33_4 hR, ar_36, ln_36, rg_33_5 hR, ar_37, ln_37, rg_33_6 hR, ar_38, ln_38, rg_33_7 hR, ar_39, ln_39, rg_33_8 hR, ar_40, ln_40, rg_33_9 hR, ar_41, ln_41, rg_33_10 hR, ar_42, ln_42, rg_33_11 hR, ar_43, ln_43, rg_33_12 hR, ar_44, ln_44, rg_33_19 hR, ar_45, ln_45, rg_33_20 hR, ar_46, ln_46, rg_33_23 hR, ar_47, ln_47, rg_33_24 hR, ar_48, ln_48, rg_33_25 hR, ar_49, ln_49, rg_33_26 hR, ar_50, ln_50, rg_33_27 hR, ar_51, ln_51, rg_33_28 hR, ar_52, ln_52, rg_33_29 hR, ar_53, ln_53, rg_33_30 hR, ar_54, ln_54, rg_33_39 hR, ar_55, ln_55, rg_33_40 hR, ar_56, ln_56, rg_33_41 hR, ar_57, ln_57, rg_33_42 hR, ar_58, ln_58, rg_33_43 hR, ar_59, ln_59, rg_33_44 hR, ar_60, ln_60, rg_33_45 hR, ar_61, ln_61, rg_33_48 hR, ar_62, ln_62, rg_33_49 hR, ar_63, ln_63, rg_33_50 hR, ar_64, ln_64, rg_33_56 hR, ar_65, ln_65, rg_33_57 hR, ar_66, ln_66, rg_33_58 hR, ar_67, ln_67, rg_33_59 hR, ar_68, ln_68, rg_33_66 hR, ar_69, ln_69, rg_33_67 hR, ar_70, ln_70, nsl, rt_in_nI, Option.isSome_some, Option.getD_some, Bool.or_true, Bool.true_or]; done) | fail) only [e_X10_isMeansNext_0, e_X10_isMeansNext_1, e_X10_isMeansNext_4, e_X10_isMeansNext_5, e_X10_isMeansNext_6, e_X10_isMeansNext_7, e_X10_isMeansNext_8, e_X10_isMeansNext_9, e_X10_isMeansNext_10, e_X10_isMeansNext_12, e_X10_isMeansNext_13, e_X10_isMeansNext_14, e_X10_isMeansNext_15, e_X10_isMeansNext_18, e_X10_isMeansNext_21, e_X10_isMeansNext_22, e_X10_isMeansNext_24, e_X10_isMeansNext_27, e_X10_isMeansNext_28, e_X10_isMeansNext_31, e_X10_isMeansNext_32, e_X10_isMeansNext_33, e_X10_isMeansNext_36, e_X10_isMeansNext_37, e_X10_isMeansNext_38, e_X10_isMeansNext_39, e_X10_isMeansNext_40, e_X10_isMeansNext_41, e_X10_isMeansNext_42, e_X10_isMeansNext_45, e_X10_isMeansNext_46, e_X10_isMeansNext_47, e_X10_isMeansNext_48, e_X10_isMeansNext_49, e_X10_isMeansNext_50, e_X10_isMeansNext_51, e_X10_isMeansNext_52, e_X10_isMeansNext_53, e_X10_isMeansNext_56, e_X10_isMeansNext_57, e_X10_isMeansNext_58, e_X10_isMeansNext_61, e_X10_isMeansNext_62, e_X10_isMeansNext_63, e_X10_isMeansNext_66, e_X10_isMeansNext_68, e_X10_isMeansNext_69, e_X10_isMeansNext_70, e_X10_isMeansNext_73, e_X10_isMeansNext_74, e_X10_isMeansNext_75, e_X10_isMeansNext_76, e_X10_isMeansNext_77, e_X10_isMeansNext_80, e_X10_isMeansNext_83, e_X10_isMeansNext_84, e_X10_isMeansNext_87, e_X10_isMeansNext_88, e_X10_isMeansNext_89, e_X10_isMeansNext_90, e_X10_isMeansNext_91, e_X10_isMeansNext_93, e_X10_isMeansNext_96, e_X10_isMeansNext_97, e_X10_isMeansNext_100, e_X10_isMeansNext_101, h17, q_s]
  rw [hst, g5]
  by_cases hj : j = 5
  · subst hj
    have hle : en + 1 + 5 ≤ n := by have := (g3 4 (by omega)).1; omega
    have hlt : ∀ i, en + 1 ≤ i → i < en + 1 + 5 → ltr (t i) = true := by
      intro i h1 h2
      have := (g3 (i - (en + 1)) (by omega)).2
      rw [show en + 1 + (i - (en + 1)) = i by omega] at this
      exact this
    obtain ⟨o1, o2, -, -⟩ := bW_ok 17 (by decide)
    have hq := ky_eq (w := txt t (en + 1) (en + 1 + 5)) (ws := bW.getD 17 []) (by rw [txt_len]; omega) (txt_ltr hlt) o1 o2
    unfold mst
    rw [decide_eq_true hle, Bool.true_and]
    by_cases hw : txt t (en + 1) (en + 1 + 5) = bW.getD 17 []
    · rw [eq_true hw] at hq
      rw [decide_eq_true hw, Bool.and_true]
      by_cases hn : en + 1 + 5 = n
      · rw [decide_eq_true hn, Bool.true_or]
        rw [hn] at hq
        simp (disch := first | exact rt_bo_0 | exact rt_bo_1 | exact ns_float | exact ns_int | exact ns_ref | assumption | omega | (simp (disch := omega) only [ob_33, rg_33_2 hR, ar_34, ln_34, rg_33_3 hR, ar_35, ln_35, rg_33_4 hR, ar_36, ln_36, rg_33_5 hR, ar_37, ln_37, rg_33_6 hR, ar_38, ln_38, rg_33_7 hR, ar_39, ln_39, rg_33_8 hR, ar_40, ln_40, rg_33_9 hR, ar_41, ln_41, rg_33_10 hR, ar_42, ln_42, rg_33_11 hR, ar_43, ln_43, rg_33_12 hR, ar_44, ln_44, rg_33_19 hR, ar_45, ln_45, rg_33_20 hR, ar_46, ln_46, rg_33_23 hR, ar_47, ln_47, rg_33_24 hR, ar_48, ln_48, rg_33_25 hR, ar_49, ln_49, rg_33_26 hR, ar_50, ln_50, rg_33_27 hR, ar_51, ln_51, rg_33_28 hR, ar_52, ln_52, rg_33_29 hR, ar_53, ln_53, rg_33_30 hR, ar_54, ln_54, rg_33_39 hR, ar_55, ln_55, rg_33_40 hR, ar_56, ln_56, rg_33_41 hR, ar_57, ln_57, rg_33_42 hR, ar_58, ln_58, rg_33_43 hR, ar_59, ln_59, rg_33_44 hR, ar_60, ln_60, rg_33_45 hR, ar_61, ln_61, rg_33_48 hR, ar_62, ln_62, rg_33_49 hR, ar_63, ln_63, rg_33_50 hR, ar_64, ln_64, rg_33_56 hR, ar_65, ln_65, rg_33_57 hR, ar_66, ln_66, rg_33_58 hR, ar_67, ln_67, rg_33_59 hR, ar_68, ln_68, rg_33_66 hR, ar_69, ln_69, rg_33_67 hR, ar_70, ln_70, nsl, rt_in_nI, Option.isSome_some, Option.getD_some, Bool.or_true, Bool.true_or]; done) | fail) only [e_X10_isMeansNext_0, e_X10_isMeansNext_1, e_X10_isMeansNext_4, e_X10_isMeansNext_5, e_X10_isMeansNext_6, e_X10_isMeansNext_7, e_X10_isMeansNext_8, e_X10_isMeansNext_9, e_X10_isMeansNext_10, e_X10_isMeansNext_12, e_X10_isMeansNext_13, e_X10_isMeansNext_14, e_X10_isMeansNext_15, e_X10_isMeansNext_18, e_X10_isMeansNext_21, e_X10_isMeansNext_22, e_X10_isMeansNext_24, e_X10_isMeansNext_27, e_X10_isMeansNext_28, e_X10_isMeansNext_31, e_X10_isMeansNext_32, e_X10_isMeansNext_33, e_X10_isMeansNext_36, e_X10_isMeansNext_37, e_X10_isMeansNext_38, e_X10_isMeansNext_39, e_X10_isMeansNext_40, e_X10_isMeansNext_41, e_X10_isMeansNext_42, e_X10_isMeansNext_45, e_X10_isMeansNext_46, e_X10_isMeansNext_47, e_X10_isMeansNext_48, e_X10_isMeansNext_49, e_X10_isMeansNext_50, e_X10_isMeansNext_51, e_X10_isMeansNext_52, e_X10_isMeansNext_53, e_X10_isMeansNext_56, e_X10_isMeansNext_57, e_X10_isMeansNext_58, e_X10_isMeansNext_61, e_X10_isMeansNext_62, e_X10_isMeansNext_63, e_X10_isMeansNext_66, e_X10_isMeansNext_68, e_X10_isMeansNext_69, e_X10_isMeansNext_70, e_X10_isMeansNext_73, e_X10_isMeansNext_74, e_X10_isMeansNext_75, e_X10_isMeansNext_76, e_X10_isMeansNext_77, e_X10_isMeansNext_80, e_X10_isMeansNext_83, e_X10_isMeansNext_84, e_X10_isMeansNext_87, e_X10_isMeansNext_88, e_X10_isMeansNext_89, e_X10_isMeansNext_90, e_X10_isMeansNext_91, e_X10_isMeansNext_93, e_X10_isMeansNext_96, e_X10_isMeansNext_97, e_X10_isMeansNext_100, e_X10_isMeansNext_101, rg_33_19 hR, q6, nI_cl, h45', lgc0, hq, q5, nI_add, hX.2.1, hn, if_true, Option.getD_some, Option.bind_some, Option.toList_some, Option.toList_none, List.cons_append, List.nil_append]
        rfl
      · have h44 := hX.2.2.1 (en + 1 + 5) (by omega)
        have hs := (sgb_all _ (hX.2.2.2 (en + 1 + 5) (by omega))).2.2
        rw [decide_eq_false hn, Bool.false_or]
        by_cases h32 : t (en + 1 + 5) = 32
        · rw [decide_eq_true h32]
          have h44' : I 44 (en + 1 + 5) = 32 := by rw [h44]; exact hs.mpr h32
          simp (disch := first | exact rt_bo_0 | exact rt_bo_1 | exact ns_float | exact ns_int | exact ns_ref | assumption | omega | (simp (disch := omega) only [ob_33, rg_33_2 hR, ar_34, ln_34, rg_33_3 hR, ar_35, ln_35, rg_33_4 hR, ar_36, ln_36, rg_33_5 hR, ar_37, ln_37, rg_33_6 hR, ar_38, ln_38, rg_33_7 hR, ar_39, ln_39, rg_33_8 hR, ar_40, ln_40, rg_33_9 hR, ar_41, ln_41, rg_33_10 hR, ar_42, ln_42, rg_33_11 hR, ar_43, ln_43, rg_33_12 hR, ar_44, ln_44, rg_33_19 hR, ar_45, ln_45, rg_33_20 hR, ar_46, ln_46, rg_33_23 hR, ar_47, ln_47, rg_33_24 hR, ar_48, ln_48, rg_33_25 hR, ar_49, ln_49, rg_33_26 hR, ar_50, ln_50, rg_33_27 hR, ar_51, ln_51, rg_33_28 hR, ar_52, ln_52, rg_33_29 hR, ar_53, ln_53, rg_33_30 hR, ar_54, ln_54, rg_33_39 hR, ar_55, ln_55, rg_33_40 hR, ar_56, ln_56, rg_33_41 hR, ar_57, ln_57, rg_33_42 hR, ar_58, ln_58, rg_33_43 hR, ar_59, ln_59, rg_33_44 hR, ar_60, ln_60, rg_33_45 hR, ar_61, ln_61, rg_33_48 hR, ar_62, ln_62, rg_33_49 hR, ar_63, ln_63, rg_33_50 hR, ar_64, ln_64, rg_33_56 hR, ar_65, ln_65, rg_33_57 hR, ar_66, ln_66, rg_33_58 hR, ar_67, ln_67, rg_33_59 hR, ar_68, ln_68, rg_33_66 hR, ar_69, ln_69, rg_33_67 hR, ar_70, ln_70, nsl, rt_in_nI, Option.isSome_some, Option.getD_some, Bool.or_true, Bool.true_or]; done) | fail) only [e_X10_isMeansNext_0, e_X10_isMeansNext_1, e_X10_isMeansNext_4, e_X10_isMeansNext_5, e_X10_isMeansNext_6, e_X10_isMeansNext_7, e_X10_isMeansNext_8, e_X10_isMeansNext_9, e_X10_isMeansNext_10, e_X10_isMeansNext_12, e_X10_isMeansNext_13, e_X10_isMeansNext_14, e_X10_isMeansNext_15, e_X10_isMeansNext_18, e_X10_isMeansNext_21, e_X10_isMeansNext_22, e_X10_isMeansNext_24, e_X10_isMeansNext_27, e_X10_isMeansNext_28, e_X10_isMeansNext_31, e_X10_isMeansNext_32, e_X10_isMeansNext_33, e_X10_isMeansNext_36, e_X10_isMeansNext_37, e_X10_isMeansNext_38, e_X10_isMeansNext_39, e_X10_isMeansNext_40, e_X10_isMeansNext_41, e_X10_isMeansNext_42, e_X10_isMeansNext_45, e_X10_isMeansNext_46, e_X10_isMeansNext_47, e_X10_isMeansNext_48, e_X10_isMeansNext_49, e_X10_isMeansNext_50, e_X10_isMeansNext_51, e_X10_isMeansNext_52, e_X10_isMeansNext_53, e_X10_isMeansNext_56, e_X10_isMeansNext_57, e_X10_isMeansNext_58, e_X10_isMeansNext_61, e_X10_isMeansNext_62, e_X10_isMeansNext_63, e_X10_isMeansNext_66, e_X10_isMeansNext_68, e_X10_isMeansNext_69, e_X10_isMeansNext_70, e_X10_isMeansNext_73, e_X10_isMeansNext_74, e_X10_isMeansNext_75, e_X10_isMeansNext_76, e_X10_isMeansNext_77, e_X10_isMeansNext_80, e_X10_isMeansNext_83, e_X10_isMeansNext_84, e_X10_isMeansNext_87, e_X10_isMeansNext_88, e_X10_isMeansNext_89, e_X10_isMeansNext_90, e_X10_isMeansNext_91, e_X10_isMeansNext_93, e_X10_isMeansNext_96, e_X10_isMeansNext_97, e_X10_isMeansNext_100, e_X10_isMeansNext_101, rg_33_19 hR, rg_33_12 hR, q6, nI_cl, h45', lgc0, hq, q5, nI_add, hX.2.1, q_eq, hn, h44', if_true, if_false, Option.getD_some, Option.bind_some, Option.toList_some, Option.toList_none, List.cons_append, List.nil_append]
          rfl
        · rw [decide_eq_false h32]
          have h44' : ¬ I 44 (en + 1 + 5) = 32 := by rw [h44]; exact fun h => h32 (hs.mp h)
          simp (disch := first | exact rt_bo_0 | exact rt_bo_1 | exact ns_float | exact ns_int | exact ns_ref | assumption | omega | (simp (disch := omega) only [ob_33, rg_33_2 hR, ar_34, ln_34, rg_33_3 hR, ar_35, ln_35, rg_33_4 hR, ar_36, ln_36, rg_33_5 hR, ar_37, ln_37, rg_33_6 hR, ar_38, ln_38, rg_33_7 hR, ar_39, ln_39, rg_33_8 hR, ar_40, ln_40, rg_33_9 hR, ar_41, ln_41, rg_33_10 hR, ar_42, ln_42, rg_33_11 hR, ar_43, ln_43, rg_33_12 hR, ar_44, ln_44, rg_33_19 hR, ar_45, ln_45, rg_33_20 hR, ar_46, ln_46, rg_33_23 hR, ar_47, ln_47, rg_33_24 hR, ar_48, ln_48, rg_33_25 hR, ar_49, ln_49, rg_33_26 hR, ar_50, ln_50, rg_33_27 hR, ar_51, ln_51, rg_33_28 hR, ar_52, ln_52, rg_33_29 hR, ar_53, ln_53, rg_33_30 hR, ar_54, ln_54, rg_33_39 hR, ar_55, ln_55, rg_33_40 hR, ar_56, ln_56, rg_33_41 hR, ar_57, ln_57, rg_33_42 hR, ar_58, ln_58, rg_33_43 hR, ar_59, ln_59, rg_33_44 hR, ar_60, ln_60, rg_33_45 hR, ar_61, ln_61, rg_33_48 hR, ar_62, ln_62, rg_33_49 hR, ar_63, ln_63, rg_33_50 hR, ar_64, ln_64, rg_33_56 hR, ar_65, ln_65, rg_33_57 hR, ar_66, ln_66, rg_33_58 hR, ar_67, ln_67, rg_33_59 hR, ar_68, ln_68, rg_33_66 hR, ar_69, ln_69, rg_33_67 hR, ar_70, ln_70, nsl, rt_in_nI, Option.isSome_some, Option.getD_some, Bool.or_true, Bool.true_or]; done) | fail) only [e_X10_isMeansNext_0, e_X10_isMeansNext_1, e_X10_isMeansNext_4, e_X10_isMeansNext_5, e_X10_isMeansNext_6, e_X10_isMeansNext_7, e_X10_isMeansNext_8, e_X10_isMeansNext_9, e_X10_isMeansNext_10, e_X10_isMeansNext_12, e_X10_isMeansNext_13, e_X10_isMeansNext_14, e_X10_isMeansNext_15, e_X10_isMeansNext_18, e_X10_isMeansNext_21, e_X10_isMeansNext_22, e_X10_isMeansNext_24, e_X10_isMeansNext_27, e_X10_isMeansNext_28, e_X10_isMeansNext_31, e_X10_isMeansNext_32, e_X10_isMeansNext_33, e_X10_isMeansNext_36, e_X10_isMeansNext_37, e_X10_isMeansNext_38, e_X10_isMeansNext_39, e_X10_isMeansNext_40, e_X10_isMeansNext_41, e_X10_isMeansNext_42, e_X10_isMeansNext_45, e_X10_isMeansNext_46, e_X10_isMeansNext_47, e_X10_isMeansNext_48, e_X10_isMeansNext_49, e_X10_isMeansNext_50, e_X10_isMeansNext_51, e_X10_isMeansNext_52, e_X10_isMeansNext_53, e_X10_isMeansNext_56, e_X10_isMeansNext_57, e_X10_isMeansNext_58, e_X10_isMeansNext_61, e_X10_isMeansNext_62, e_X10_isMeansNext_63, e_X10_isMeansNext_66, e_X10_isMeansNext_68, e_X10_isMeansNext_69, e_X10_isMeansNext_70, e_X10_isMeansNext_73, e_X10_isMeansNext_74, e_X10_isMeansNext_75, e_X10_isMeansNext_76, e_X10_isMeansNext_77, e_X10_isMeansNext_80, e_X10_isMeansNext_83, e_X10_isMeansNext_84, e_X10_isMeansNext_87, e_X10_isMeansNext_88, e_X10_isMeansNext_89, e_X10_isMeansNext_90, e_X10_isMeansNext_91, e_X10_isMeansNext_93, e_X10_isMeansNext_96, e_X10_isMeansNext_97, e_X10_isMeansNext_100, e_X10_isMeansNext_101, rg_33_19 hR, rg_33_12 hR, q6, nI_cl, h45', lgc0, hq, q5, nI_add, hX.2.1, q_eq, hn, h44', if_true, if_false, Option.getD_some, Option.bind_some, Option.toList_some, Option.toList_none, List.cons_append, List.nil_append]
          rfl
    · rw [eq_false hw] at hq
      rw [decide_eq_false hw, Bool.and_false]
      simp (disch := first | exact rt_bo_0 | exact rt_bo_1 | exact ns_float | exact ns_int | exact ns_ref | assumption | omega | (simp (disch := omega) only [ob_33, rg_33_2 hR, ar_34, ln_34, rg_33_3 hR, ar_35, ln_35, rg_33_4 hR, ar_36, ln_36, rg_33_5 hR, ar_37, ln_37, rg_33_6 hR, ar_38, ln_38, rg_33_7 hR, ar_39, ln_39, rg_33_8 hR, ar_40, ln_40, rg_33_9 hR, ar_41, ln_41, rg_33_10 hR, ar_42, ln_42, rg_33_11 hR, ar_43, ln_43, rg_33_12 hR, ar_44, ln_44, rg_33_19 hR, ar_45, ln_45, rg_33_20 hR, ar_46, ln_46, rg_33_23 hR, ar_47, ln_47, rg_33_24 hR, ar_48, ln_48, rg_33_25 hR, ar_49, ln_49, rg_33_26 hR, ar_50, ln_50, rg_33_27 hR, ar_51, ln_51, rg_33_28 hR, ar_52, ln_52, rg_33_29 hR, ar_53, ln_53, rg_33_30 hR, ar_54, ln_54, rg_33_39 hR, ar_55, ln_55, rg_33_40 hR, ar_56, ln_56, rg_33_41 hR, ar_57, ln_57, rg_33_42 hR, ar_58, ln_58, rg_33_43 hR, ar_59, ln_59, rg_33_44 hR, ar_60, ln_60, rg_33_45 hR, ar_61, ln_61, rg_33_48 hR, ar_62, ln_62, rg_33_49 hR, ar_63, ln_63, rg_33_50 hR, ar_64, ln_64, rg_33_56 hR, ar_65, ln_65, rg_33_57 hR, ar_66, ln_66, rg_33_58 hR, ar_67, ln_67, rg_33_59 hR, ar_68, ln_68, rg_33_66 hR, ar_69, ln_69, rg_33_67 hR, ar_70, ln_70, nsl, rt_in_nI, Option.isSome_some, Option.getD_some, Bool.or_true, Bool.true_or]; done) | fail) only [e_X10_isMeansNext_0, e_X10_isMeansNext_1, e_X10_isMeansNext_4, e_X10_isMeansNext_5, e_X10_isMeansNext_6, e_X10_isMeansNext_7, e_X10_isMeansNext_8, e_X10_isMeansNext_9, e_X10_isMeansNext_10, e_X10_isMeansNext_12, e_X10_isMeansNext_13, e_X10_isMeansNext_14, e_X10_isMeansNext_15, e_X10_isMeansNext_18, e_X10_isMeansNext_21, e_X10_isMeansNext_22, e_X10_isMeansNext_24, e_X10_isMeansNext_27, e_X10_isMeansNext_28, e_X10_isMeansNext_31, e_X10_isMeansNext_32, e_X10_isMeansNext_33, e_X10_isMeansNext_36, e_X10_isMeansNext_37, e_X10_isMeansNext_38, e_X10_isMeansNext_39, e_X10_isMeansNext_40, e_X10_isMeansNext_41, e_X10_isMeansNext_42, e_X10_isMeansNext_45, e_X10_isMeansNext_46, e_X10_isMeansNext_47, e_X10_isMeansNext_48, e_X10_isMeansNext_49, e_X10_isMeansNext_50, e_X10_isMeansNext_51, e_X10_isMeansNext_52, e_X10_isMeansNext_53, e_X10_isMeansNext_56, e_X10_isMeansNext_57, e_X10_isMeansNext_58, e_X10_isMeansNext_61, e_X10_isMeansNext_62, e_X10_isMeansNext_63, e_X10_isMeansNext_66, e_X10_isMeansNext_68, e_X10_isMeansNext_69, e_X10_isMeansNext_70, e_X10_isMeansNext_73, e_X10_isMeansNext_74, e_X10_isMeansNext_75, e_X10_isMeansNext_76, e_X10_isMeansNext_77, e_X10_isMeansNext_80, e_X10_isMeansNext_83, e_X10_isMeansNext_84, e_X10_isMeansNext_87, e_X10_isMeansNext_88, e_X10_isMeansNext_89, e_X10_isMeansNext_90, e_X10_isMeansNext_91, e_X10_isMeansNext_93, e_X10_isMeansNext_96, e_X10_isMeansNext_97, e_X10_isMeansNext_100, e_X10_isMeansNext_101, rg_33_19 hR, q6, nI_cl, h45', lgc0, hq, q5, if_true, if_false, Option.getD_some, Option.bind_some, Option.toList_some, Option.toList_none, List.cons_append, List.nil_append]
      rfl
  · have hm : mst t n (en + 1) = false := by
      cases hmm : mst t n (en + 1) with
      | false => rfl
      | true =>
        exfalso
        unfold mst at hmm
        rw [Bool.and_eq_true, Bool.and_eq_true, Bool.or_eq_true, decide_eq_true_iff, decide_eq_true_iff, decide_eq_true_iff, decide_eq_true_iff] at hmm
        obtain ⟨⟨m1, m2⟩, m3⟩ := hmm
        have hlt : ∀ i, i < 5 → ltr (t (en + 1 + i)) = true := by
          intro i hi
          have hm := (bW_ok 17 (by decide)).2.1 (t (en + 1 + i)) (by
            rw [← m3]
            have := txt_get (t := t) (s := en + 1) (en := en + 1 + 5) (j := i)
            rw [if_pos (by omega)] at this
            exact List.mem_of_getElem? this)
          exact ltr_iff.mpr hm
        by_cases h5 : j < 5
        · exact g4 (by omega) ⟨by omega, hlt j h5⟩
        · have h6 : j = 6 := by omega
          obtain ⟨k1, k2⟩ := g3 5 (by omega)
          rcases m2 with m2 | m2
          · omega
          · rw [m2] at k2
            exact absurd k2 (by decide)
    rw [hm]
    simp (disch := first | exact rt_bo_0 | exact rt_bo_1 | exact ns_float | exact ns_int | exact ns_ref | assumption | omega | (simp (disch := omega) only [ob_33, rg_33_2 hR, ar_34, ln_34, rg_33_3 hR, ar_35, ln_35, rg_33_4 hR, ar_36, ln_36, rg_33_5 hR, ar_37, ln_37, rg_33_6 hR, ar_38, ln_38, rg_33_7 hR, ar_39, ln_39, rg_33_8 hR, ar_40, ln_40, rg_33_9 hR, ar_41, ln_41, rg_33_10 hR, ar_42, ln_42, rg_33_11 hR, ar_43, ln_43, rg_33_12 hR, ar_44, ln_44, rg_33_19 hR, ar_45, ln_45, rg_33_20 hR, ar_46, ln_46, rg_33_23 hR, ar_47, ln_47, rg_33_24 hR, ar_48, ln_48, rg_33_25 hR, ar_49, ln_49, rg_33_26 hR, ar_50, ln_50, rg_33_27 hR, ar_51, ln_51, rg_33_28 hR, ar_52, ln_52, rg_33_29 hR, ar_53, ln_53, rg_33_30 hR, ar_54, ln_54, rg_33_39 hR, ar_55, ln_55, rg_33_40 hR, ar_56, ln_56, rg_33_41 hR, ar_57, ln_57, rg_33_42 hR, ar_58, ln_58, rg_33_43 hR, ar_59, ln_59, rg_33_44 hR, ar_60, ln_60, rg_33_45 hR, ar_61, ln_61, rg_33_48 hR, ar_62, ln_62, rg_33_49 hR, ar_63, ln_63, rg_33_50 hR, ar_64, ln_64, rg_33_56 hR, ar_65, ln_65, rg_33_57 hR, ar_66, ln_66, rg_33_58 hR, ar_67, ln_67, rg_33_59 hR, ar_68, ln_68, rg_33_66 hR, ar_69, ln_69, rg_33_67 hR, ar_70, ln_70, nsl, rt_in_nI, Option.isSome_some, Option.getD_some, Bool.or_true, Bool.true_or]; done) | fail) only [e_X10_isMeansNext_0, e_X10_isMeansNext_1, e_X10_isMeansNext_4, e_X10_isMeansNext_5, e_X10_isMeansNext_6, e_X10_isMeansNext_7, e_X10_isMeansNext_8, e_X10_isMeansNext_9, e_X10_isMeansNext_10, e_X10_isMeansNext_12, e_X10_isMeansNext_13, e_X10_isMeansNext_14, e_X10_isMeansNext_15, e_X10_isMeansNext_18, e_X10_isMeansNext_21, e_X10_isMeansNext_22, e_X10_isMeansNext_24, e_X10_isMeansNext_27, e_X10_isMeansNext_28, e_X10_isMeansNext_31, e_X10_isMeansNext_32, e_X10_isMeansNext_33, e_X10_isMeansNext_36, e_X10_isMeansNext_37, e_X10_isMeansNext_38, e_X10_isMeansNext_39, e_X10_isMeansNext_40, e_X10_isMeansNext_41, e_X10_isMeansNext_42, e_X10_isMeansNext_45, e_X10_isMeansNext_46, e_X10_isMeansNext_47, e_X10_isMeansNext_48, e_X10_isMeansNext_49, e_X10_isMeansNext_50, e_X10_isMeansNext_51, e_X10_isMeansNext_52, e_X10_isMeansNext_53, e_X10_isMeansNext_56, e_X10_isMeansNext_57, e_X10_isMeansNext_58, e_X10_isMeansNext_61, e_X10_isMeansNext_62, e_X10_isMeansNext_63, e_X10_isMeansNext_66, e_X10_isMeansNext_68, e_X10_isMeansNext_69, e_X10_isMeansNext_70, e_X10_isMeansNext_73, e_X10_isMeansNext_74, e_X10_isMeansNext_75, e_X10_isMeansNext_76, e_X10_isMeansNext_77, e_X10_isMeansNext_80, e_X10_isMeansNext_83, e_X10_isMeansNext_84, e_X10_isMeansNext_87, e_X10_isMeansNext_88, e_X10_isMeansNext_89, e_X10_isMeansNext_90, e_X10_isMeansNext_91, e_X10_isMeansNext_93, e_X10_isMeansNext_96, e_X10_isMeansNext_97, e_X10_isMeansNext_100, e_X10_isMeansNext_101, q5, q_eq, hj, if_true, if_false, Option.getD_some, Option.bind_some, Option.toList_some, Option.toList_none, List.cons_append, List.nil_append]
    rfl
/-! the class -/
theorem x_isL (hR : RG R a b) (hX : TX I N t) (hk : k < N) : Ev mX7_isLetter 0 [.ref 7, .int (nI k)] [] (71 + e, I, L, R) = some (some (.int (b01 (ltr (t k)))), (71 + e, I, L, R)) := by
  obtain ⟨x1, x2, x3, x4⟩ := hX
  have hb := x4 k hk
  have q97 : (97 : Int32) = nI 97 := rfl
  have q122 : (122 : Int32) = nI 122 := rfl
  unfold ltr
  by_cases h1 : 97 ≤ t k
  · have h1' : ¬ t k < 97 := by omega
    by_cases h2 : t k ≤ 122
    · have h2' : ¬ 122 < t k := by omega
      rw [decide_eq_true h1, decide_eq_true h2]
      simp (disch := first | exact rt_bo_0 | exact rt_bo_1 | exact ns_float | exact ns_int | exact ns_ref | assumption | omega | (simp (disch := omega) only [ob_7, rg_7_0 hR, ar_8, ln_8, rt_in_nI, Option.isSome_some, Option.getD_some, Bool.or_true, Bool.true_or]; done) | fail) only [e_X7_isLetter_0, e_X7_isLetter_1, e_X7_isLetter_2, e_X7_isLetter_5, e_X7_isLetter_7, e_X7_isLetter_10, e_X7_isLetter_11, e_X7_isLetter_12, e_X7_isLetter_15, e_X7_isLetter_17, e_X7_isLetter_20, e_X7_isLetter_21, e_X7_isLetter_24, e_X7_isLetter_25, x_byte hR x2 x1 hk, x3 k hk, q97, q122, q_lt, h1', h2', if_true, if_false, Option.getD_some, Option.bind_some, Option.toList_some, Option.toList_none, List.cons_append, List.nil_append]
      rfl
    · have h2' : 122 < t k := by omega
      rw [decide_eq_true h1, decide_eq_false h2]
      simp (disch := first | exact rt_bo_0 | exact rt_bo_1 | exact ns_float | exact ns_int | exact ns_ref | assumption | omega | (simp (disch := omega) only [ob_7, rg_7_0 hR, ar_8, ln_8, rt_in_nI, Option.isSome_some, Option.getD_some, Bool.or_true, Bool.true_or]; done) | fail) only [e_X7_isLetter_0, e_X7_isLetter_1, e_X7_isLetter_2, e_X7_isLetter_5, e_X7_isLetter_7, e_X7_isLetter_10, e_X7_isLetter_11, e_X7_isLetter_12, e_X7_isLetter_15, e_X7_isLetter_17, e_X7_isLetter_20, e_X7_isLetter_21, e_X7_isLetter_24, e_X7_isLetter_25, x_byte hR x2 x1 hk, x3 k hk, q97, q122, q_lt, h1', h2', if_true, if_false, Option.getD_some, Option.bind_some, Option.toList_some, Option.toList_none, List.cons_append, List.nil_append]
      rfl
  · have h1' : t k < 97 := by omega
    rw [decide_eq_false h1]
    simp (disch := first | exact rt_bo_0 | exact rt_bo_1 | exact ns_float | exact ns_int | exact ns_ref | assumption | omega | (simp (disch := omega) only [ob_7, rg_7_0 hR, ar_8, ln_8, rt_in_nI, Option.isSome_some, Option.getD_some, Bool.or_true, Bool.true_or]; done) | fail) only [e_X7_isLetter_0, e_X7_isLetter_1, e_X7_isLetter_2, e_X7_isLetter_5, e_X7_isLetter_7, e_X7_isLetter_10, e_X7_isLetter_11, e_X7_isLetter_12, e_X7_isLetter_15, e_X7_isLetter_17, e_X7_isLetter_20, e_X7_isLetter_21, e_X7_isLetter_24, e_X7_isLetter_25, x_byte hR x2 x1 hk, x3 k hk, q97, q122, q_lt, h1', if_true, if_false, Option.getD_some, Option.bind_some, Option.toList_some, Option.toList_none, List.cons_append, List.nil_append]
    rfl
theorem tix_ge : ∀ f k, tix wl ws k f = some c → 29 ≤ c := by
  intro f
  induction f with
  | zero => intro k h; cases h
  | succ f ih =>
    intro k h
    rw [tix] at h
    split at h
    · rw [Option.some.injEq] at h; omega
    · exact ih (k + 1) h
theorem fnd_17 : (fnd wl nw ws = some 17) = (ws = bW.getD 17 []) := by
  apply propext
  unfold fnd
  cases hi : ixw ws 0 bW with
  | some c =>
    obtain ⟨h1, h2⟩ := ixw_some hi
    rw [Option.some.injEq]
    constructor
    · intro h; rw [← h2, h]
    · intro h; rw [h] at h2; exact bW_nd c h1 17 (by decide) h2
  | none =>
    constructor
    · intro h
      have := tix_ge _ _ h
      omega
    · intro h
      exact absurd h.symm (ixw_none hi 17 (by rw [bW_len]; decide))
theorem tix_lt : ∀ f k, tix wl ws k f = some c → c < 29 + (k + f) := by
  intro f
  induction f with
  | zero => intro k h; cases h
  | succ f ih =>
    intro k h
    rw [tix] at h
    split at h
    · rw [Option.some.injEq] at h; omega
    · have := ih (k + 1) h; omega
theorem fnd_lt (h : fnd wl nw ws = some c) : c < 29 + nw := by
  unfold fnd at h
  cases hi : ixw ws 0 bW with
  | some d =>
    rw [hi] at h
    have := (ixw_some hi).1
    simp only [Option.some.injEq] at h
    omega
  | none =>
    rw [hi] at h
    have := tix_lt _ _ h
    omega
theorem x_meansStands (hR : RG R a b) (hX : TX I N t) (hW : WX I nw wl) (hn : n ≤ N) (hs : s ≤ 1000) : Ev mX4_meansStands 0 [.ref 7, .int (nI s), .int (nI n), .ref 9, .float 0] [] (71 + e, I, L, R) = some (some (.int (b01 (mst t n s))), (71 + e, I, L, R)) := by
  have x1 := hX.1
  have w1 := hW.1
  have q5 : (5 : Int32) = nI 5 := rfl
  have q17 : (17 : Int32) = nI 17 := rfl
  unfold mst
  by_cases h1 : s + 5 ≤ n
  · have h1' : ¬ n < s + 5 := by omega
    rw [decide_eq_true h1, Bool.true_and]
    have hf := x_find (e := e) (L := L) hR hX hW (s := s) (en := s + 5) (by omega) (by omega)
    have hq : (oX (fnd wl nw (txt t s (s + 5))) = nI 17) = (txt t s (s + 5) = bW.getD 17 []) := by
      rw [← fnd_17 (wl := wl) (nw := nw)]
      cases hc : fnd wl nw (txt t s (s + 5)) with
      | none => simp only [oX]; exact propext ⟨fun h => absurd h (by decide), fun h => by cases h⟩
      | some c =>
        have := fnd_lt hc
        simp only [oX, Option.some.injEq]
        rw [q_eq (by omega) (by omega)]
    by_cases h2 : s + 5 = n
    · have h2' : n ≤ s + 5 := by omega
      rw [decide_eq_true h2, Bool.true_or, Bool.true_and]
      by_cases hw : txt t s (s + 5) = bW.getD 17 []
      · rw [eq_true hw] at hq
        rw [decide_eq_true hw]
        simp (disch := first | exact rt_bo_0 | exact rt_bo_1 | exact ns_float | exact ns_int | exact ns_ref | assumption | omega | (simp (disch := omega) only [ob_7, rg_7_0 hR, ar_8, ln_8, ob_9, rg_9_0 hR, ar_10, ln_10, rg_9_1 hR, ar_11, ln_11, rg_9_2 hR, ar_12, ln_12, rg_9_3 hR, ar_13, ln_13, rg_9_4 hR, ar_14, ln_14, rt_in_nI, Option.isSome_some, Option.getD_some, Bool.or_true, Bool.true_or]; done) | fail) only [e_X4_meansStands_0, e_X4_meansStands_1, e_X4_meansStands_2, e_X4_meansStands_3, e_X4_meansStands_5, e_X4_meansStands_7, e_X4_meansStands_8, e_X4_meansStands_11, e_X4_meansStands_13, e_X4_meansStands_14, e_X4_meansStands_17, e_X4_meansStands_18, e_X4_meansStands_20, e_X4_meansStands_23, e_X4_meansStands_25, e_X4_meansStands_28, e_X4_meansStands_29, e_X4_meansStands_30, e_X4_meansStands_31, e_X4_meansStands_32, e_X4_meansStands_33, e_X4_meansStands_35, e_X4_meansStands_38, e_X4_meansStands_40, e_X4_meansStands_43, e_X4_meansStands_44, e_X4_meansStands_47, e_X4_meansStands_48, q5, nI_add, q_lt, q_le, h1', h2', hf, q17, hq, if_true, if_false, Option.getD_some, Option.bind_some, Option.toList_some, Option.toList_none, List.cons_append, List.nil_append]
        rfl
      · rw [eq_false hw] at hq
        rw [decide_eq_false hw]
        simp (disch := first | exact rt_bo_0 | exact rt_bo_1 | exact ns_float | exact ns_int | exact ns_ref | assumption | omega | (simp (disch := omega) only [ob_7, rg_7_0 hR, ar_8, ln_8, ob_9, rg_9_0 hR, ar_10, ln_10, rg_9_1 hR, ar_11, ln_11, rg_9_2 hR, ar_12, ln_12, rg_9_3 hR, ar_13, ln_13, rg_9_4 hR, ar_14, ln_14, rt_in_nI, Option.isSome_some, Option.getD_some, Bool.or_true, Bool.true_or]; done) | fail) only [e_X4_meansStands_0, e_X4_meansStands_1, e_X4_meansStands_2, e_X4_meansStands_3, e_X4_meansStands_5, e_X4_meansStands_7, e_X4_meansStands_8, e_X4_meansStands_11, e_X4_meansStands_13, e_X4_meansStands_14, e_X4_meansStands_17, e_X4_meansStands_18, e_X4_meansStands_20, e_X4_meansStands_23, e_X4_meansStands_25, e_X4_meansStands_28, e_X4_meansStands_29, e_X4_meansStands_30, e_X4_meansStands_31, e_X4_meansStands_32, e_X4_meansStands_33, e_X4_meansStands_35, e_X4_meansStands_38, e_X4_meansStands_40, e_X4_meansStands_43, e_X4_meansStands_44, e_X4_meansStands_47, e_X4_meansStands_48, q5, nI_add, q_lt, q_le, h1', h2', hf, q17, hq, if_true, if_false, Option.getD_some, Option.bind_some, Option.toList_some, Option.toList_none, List.cons_append, List.nil_append]
        rfl
    · have h2' : ¬ n ≤ s + 5 := by omega
      have hk : s + 5 < N := by omega
      have hb := hX.2.2.2 _ hk
      have q32 : (32 : Int32) = nI 32 := rfl
      rw [decide_eq_false h2, Bool.false_or]
      by_cases h3 : t (s + 5) = 32
      · rw [decide_eq_true h3, Bool.true_and]
        by_cases hw : txt t s (s + 5) = bW.getD 17 []
        · rw [eq_true hw] at hq
          rw [decide_eq_true hw]
          simp (disch := first | exact rt_bo_0 | exact rt_bo_1 | exact ns_float | exact ns_int | exact ns_ref | assumption | omega | (simp (disch := omega) only [ob_7, rg_7_0 hR, ar_8, ln_8, ob_9, rg_9_0 hR, ar_10, ln_10, rg_9_1 hR, ar_11, ln_11, rg_9_2 hR, ar_12, ln_12, rg_9_3 hR, ar_13, ln_13, rg_9_4 hR, ar_14, ln_14, rt_in_nI, Option.isSome_some, Option.getD_some, Bool.or_true, Bool.true_or]; done) | fail) only [e_X4_meansStands_0, e_X4_meansStands_1, e_X4_meansStands_2, e_X4_meansStands_3, e_X4_meansStands_5, e_X4_meansStands_7, e_X4_meansStands_8, e_X4_meansStands_11, e_X4_meansStands_13, e_X4_meansStands_14, e_X4_meansStands_17, e_X4_meansStands_18, e_X4_meansStands_20, e_X4_meansStands_23, e_X4_meansStands_25, e_X4_meansStands_28, e_X4_meansStands_29, e_X4_meansStands_30, e_X4_meansStands_31, e_X4_meansStands_32, e_X4_meansStands_33, e_X4_meansStands_35, e_X4_meansStands_38, e_X4_meansStands_40, e_X4_meansStands_43, e_X4_meansStands_44, e_X4_meansStands_47, e_X4_meansStands_48, q5, nI_add, q_lt, q_le, h1', h2', hf, x_byte hR hX.2.1 x1 hk, hX.2.2.1 _ hk, q32, h3, q17, hq, if_true, if_false, Option.getD_some, Option.bind_some, Option.toList_some, Option.toList_none, List.cons_append, List.nil_append]
          rfl
        · rw [eq_false hw] at hq
          rw [decide_eq_false hw]
          simp (disch := first | exact rt_bo_0 | exact rt_bo_1 | exact ns_float | exact ns_int | exact ns_ref | assumption | omega | (simp (disch := omega) only [ob_7, rg_7_0 hR, ar_8, ln_8, ob_9, rg_9_0 hR, ar_10, ln_10, rg_9_1 hR, ar_11, ln_11, rg_9_2 hR, ar_12, ln_12, rg_9_3 hR, ar_13, ln_13, rg_9_4 hR, ar_14, ln_14, rt_in_nI, Option.isSome_some, Option.getD_some, Bool.or_true, Bool.true_or]; done) | fail) only [e_X4_meansStands_0, e_X4_meansStands_1, e_X4_meansStands_2, e_X4_meansStands_3, e_X4_meansStands_5, e_X4_meansStands_7, e_X4_meansStands_8, e_X4_meansStands_11, e_X4_meansStands_13, e_X4_meansStands_14, e_X4_meansStands_17, e_X4_meansStands_18, e_X4_meansStands_20, e_X4_meansStands_23, e_X4_meansStands_25, e_X4_meansStands_28, e_X4_meansStands_29, e_X4_meansStands_30, e_X4_meansStands_31, e_X4_meansStands_32, e_X4_meansStands_33, e_X4_meansStands_35, e_X4_meansStands_38, e_X4_meansStands_40, e_X4_meansStands_43, e_X4_meansStands_44, e_X4_meansStands_47, e_X4_meansStands_48, q5, nI_add, q_lt, q_le, h1', h2', hf, x_byte hR hX.2.1 x1 hk, hX.2.2.1 _ hk, q32, h3, q17, hq, if_true, if_false, Option.getD_some, Option.bind_some, Option.toList_some, Option.toList_none, List.cons_append, List.nil_append]
          rfl
      · rw [decide_eq_false h3, Bool.false_and]
        simp (disch := first | exact rt_bo_0 | exact rt_bo_1 | exact ns_float | exact ns_int | exact ns_ref | assumption | omega | (simp (disch := omega) only [ob_7, rg_7_0 hR, ar_8, ln_8, ob_9, rg_9_0 hR, ar_10, ln_10, rg_9_1 hR, ar_11, ln_11, rg_9_2 hR, ar_12, ln_12, rg_9_3 hR, ar_13, ln_13, rg_9_4 hR, ar_14, ln_14, rt_in_nI, Option.isSome_some, Option.getD_some, Bool.or_true, Bool.true_or]; done) | fail) only [e_X4_meansStands_0, e_X4_meansStands_1, e_X4_meansStands_2, e_X4_meansStands_3, e_X4_meansStands_5, e_X4_meansStands_7, e_X4_meansStands_8, e_X4_meansStands_11, e_X4_meansStands_13, e_X4_meansStands_14, e_X4_meansStands_17, e_X4_meansStands_18, e_X4_meansStands_20, e_X4_meansStands_23, e_X4_meansStands_25, e_X4_meansStands_28, e_X4_meansStands_29, e_X4_meansStands_30, e_X4_meansStands_31, e_X4_meansStands_32, e_X4_meansStands_33, e_X4_meansStands_35, e_X4_meansStands_38, e_X4_meansStands_40, e_X4_meansStands_43, e_X4_meansStands_44, e_X4_meansStands_47, e_X4_meansStands_48, q5, nI_add, q_lt, q_le, h1', h2', x_byte hR hX.2.1 x1 hk, hX.2.2.1 _ hk, q32, q_eq, h3, if_true, if_false, Option.getD_some, Option.bind_some, Option.toList_some, Option.toList_none, List.cons_append, List.nil_append]
        rfl
  · have h1' : n < s + 5 := by omega
    rw [decide_eq_false h1, Bool.false_and, Bool.false_and]
    simp (disch := first | exact rt_bo_0 | exact rt_bo_1 | exact ns_float | exact ns_int | exact ns_ref | assumption | omega | (simp (disch := omega) only [ob_7, rg_7_0 hR, ar_8, ln_8, ob_9, rg_9_0 hR, ar_10, ln_10, rg_9_1 hR, ar_11, ln_11, rg_9_2 hR, ar_12, ln_12, rg_9_3 hR, ar_13, ln_13, rg_9_4 hR, ar_14, ln_14, rt_in_nI, Option.isSome_some, Option.getD_some, Bool.or_true, Bool.true_or]; done) | fail) only [e_X4_meansStands_0, e_X4_meansStands_1, e_X4_meansStands_2, e_X4_meansStands_3, e_X4_meansStands_5, e_X4_meansStands_7, e_X4_meansStands_8, e_X4_meansStands_11, e_X4_meansStands_13, e_X4_meansStands_14, e_X4_meansStands_17, e_X4_meansStands_18, e_X4_meansStands_20, e_X4_meansStands_23, e_X4_meansStands_25, e_X4_meansStands_28, e_X4_meansStands_29, e_X4_meansStands_30, e_X4_meansStands_31, e_X4_meansStands_32, e_X4_meansStands_33, e_X4_meansStands_35, e_X4_meansStands_38, e_X4_meansStands_40, e_X4_meansStands_43, e_X4_meansStands_44, e_X4_meansStands_47, e_X4_meansStands_48, q5, nI_add, q_lt, h1', if_true, Option.getD_some, Option.bind_some, Option.toList_some, Option.toList_none, List.cons_append, List.nil_append]
    rfl
end P62

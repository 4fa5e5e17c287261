/-- the last noun of the first k NPs that is not one -/
def lnf (q : PhT) : Nat → Option Nat
  | 0 => none
  | k + 1 => if 2 ≤ pK q k ∧ ¬ pN q k = 4 then some (pN q k) else lnf q k
def lnr (q : PhT) (ln : Option Nat) (k : Nat) : Option Nat := match lnf q k with
  | none => ln
  | some w => some w
section P48
variable {e : Nat} {I I1 I2 J : Nat → Nat → Int32} {L : Nat → Nat → Int64} {R : Nat → Nat → Option Nat} {a b T E j n S nw NR fm r M : Nat} {x y k w u to_ : Int32} {q : PhT} {ln : Option Nat} {dg : Nat → Nat → Nat} {dn : Bool} {mn : Nat → Nat → Bool} {v : Nat → Int32}
theorem x_ment (hR : RG R a b) (h16 : T ≤ 16) {V : Nat → Bool} (hM : I 15 1 = nI M) (h420 : M < 420) : Ev mX0_mentionIfOne 0 [.ref 15, .int (bs V T)] [] (71 + e, I, L, R) = some (none, (71 + e, (if cn V T = 1 then rt_up (rt_up I 16 M (ff (fun z => V z = true) 0 T)) 15 1 (nI (M + 1)) else I), L, R)) := by
  have hc := cn_le V T
  have e1 : (1 : Int32) = nI 1 := rfl
  have q1 : (nI (cn V T) = 1) = (cn V T = 1) := by rw [e1, q_eq (by omega) (by omega)]
  have e420 : (420 : Int32) = nI 420 := rfl
  have c : ¬ 420 ≤ M := by omega
  by_cases h1 : cn V T = 1
  · obtain ⟨j, j1, j2, j3, j4⟩ := bs_single h16 h1
    have hb := fun h => x_bits (V := V) h16 (h := h)
    have hn := fun h => x_ntz (j := j) (h := h) (by omega)
    rw [if_pos h1, j4]
    simp only [j3] at hb ⊢
    simp (disch := first | exact rt_bo_0 | exact rt_bo_1 | exact ns_float | exact ns_int | exact ns_ref | assumption | omega | (simp (disch := omega) only [ob_15, rg_15_0 hR, ar_16, ln_16, rt_in_nI, Option.isSome_some, Option.getD_some, Bool.or_true, Bool.true_or]; done) | fail) only [e_X0_mentionIfOne_0, e_X0_mentionIfOne_1, e_X0_mentionIfOne_4, e_X0_mentionIfOne_5, e_X0_mentionIfOne_8, e_X0_mentionIfOne_9, e_X0_mentionIfOne_12, e_X0_mentionIfOne_15, e_X0_mentionIfOne_18, e_X0_mentionIfOne_19, e_X0_mentionIfOne_22, e_X0_mentionIfOne_23, e_X0_mentionIfOne_26, e_X0_mentionIfOne_27, e_X0_mentionIfOne_30, e_X0_mentionIfOne_31, e_X0_mentionIfOne_32, e_X0_mentionIfOne_33, e_X0_mentionIfOne_36, e_X0_mentionIfOne_37, e_X0_mentionIfOne_38, e_X0_mentionIfOne_41, hb, q1, h1, hM, e420, q_le, c, hn, rg_15_0 hR, nI_cl, rt_up_n1, q_s, if_true, if_false, Option.getD_some, Option.bind_some, Option.toList_some, Option.toList_none, List.cons_append, List.nil_append]
    exact if_pos rfl
  · have hb := fun h => x_bits (V := V) h16 (h := h)
    rw [if_neg h1]
    simp (disch := first | exact rt_bo_0 | exact rt_bo_1 | exact ns_float | exact ns_int | exact ns_ref | assumption | omega | (simp (disch := omega) only [ob_15, rg_15_0 hR, ar_16, ln_16, rt_in_nI, Option.isSome_some, Option.getD_some, Bool.or_true, Bool.true_or]; done) | fail) only [e_X0_mentionIfOne_0, e_X0_mentionIfOne_1, e_X0_mentionIfOne_4, e_X0_mentionIfOne_5, e_X0_mentionIfOne_8, e_X0_mentionIfOne_9, e_X0_mentionIfOne_12, e_X0_mentionIfOne_15, e_X0_mentionIfOne_18, e_X0_mentionIfOne_19, e_X0_mentionIfOne_22, e_X0_mentionIfOne_23, e_X0_mentionIfOne_26, e_X0_mentionIfOne_27, e_X0_mentionIfOne_30, e_X0_mentionIfOne_31, e_X0_mentionIfOne_32, e_X0_mentionIfOne_33, e_X0_mentionIfOne_36, e_X0_mentionIfOne_37, e_X0_mentionIfOne_38, e_X0_mentionIfOne_41, hb, q1, h1, if_false, Option.getD_some, Option.bind_some, Option.toList_some, Option.toList_none, List.cons_append, List.nil_append]
theorem x_men_l (hR : RG R a b) (h16 : T ≤ 16) (hP7 : pP q ≤ 7) (h420 : M + pP q ≤ 420) (hq : J 18 4 = nI (pP q)) (hm : ∀ j, j < pP q → J 29 j = bs (mn j) T) : ∀ (g k : Nat) (I : Nat → Nat → Int32), k + g = pP q → (∀ c, c ≠ 15 → c ≠ 16 → I c = J c) → (∀ i, i ≠ 1 → I 15 i = J 15 i) → I 15 1 = nI (men T mn M v k).1 → (∀ i, i < (men T mn M v k).1 → I 16 i = (men T mn M v k).2 i) →
    ∃ I2, Ev mX9_carryOut 136 [.ref 0, .int x, .int (nI k)] [] (71 + e, I, L, R) = Ev mX9_carryOut 171 [.ref 0, .int x, .int (nI (pP q))] [] (71 + e, I2, L, R) ∧ (∀ c, c ≠ 15 → c ≠ 16 → I2 c = J c) ∧ (∀ i, i ≠ 1 → I2 15 i = J 15 i) ∧ I2 15 1 = nI (men T mn M v (pP q)).1 ∧ ∀ i, i < (men T mn M v (pP q)).1 → I2 16 i = (men T mn M v (pP q)).2 i := by
  intro g
  induction g with
  | zero =>
    intro k I hk f1 f2 h1 h2
    have hk' : k = pP q := by omega
    subst hk'
    refine ⟨I, ?_, f1, f2, h1, h2⟩
    have hq' : I 18 4 = nI (pP q) := by rw [f1 18 (by omega) (by omega)]; exact hq
    rw [e_X9_carryOut_136]
    simp (disch := first | exact rt_bo_0 | exact rt_bo_1 | exact ns_float | exact ns_int | exact ns_ref | assumption | omega | (simp (disch := omega) only [ob_0, rg_0_0 hR, rg_0_1 hR, rg_0_2 hR, rg_0_3 hR, rg_0_4 hR, rg_0_5 hR, rg_0_6 hR, ob_17, rg_17_0 hR, rg_17_1 hR, rg_17_2 hR, ar_26, ln_26, ob_18, rg_18_0 hR, ar_19, ln_19, rg_18_1 hR, ar_20, ln_20, rg_18_2 hR, ar_21, ln_21, rg_18_3 hR, ar_22, ln_22, rt_in_nI, Option.isSome_some, Option.getD_some, Bool.or_true, Bool.true_or]; done) | fail) only [e_X9_carryOut_0, e_X9_carryOut_1, e_X9_carryOut_4, e_X9_carryOut_7, e_X9_carryOut_8, e_X9_carryOut_9, e_X9_carryOut_11, e_X9_carryOut_12, e_X9_carryOut_15, e_X9_carryOut_18, e_X9_carryOut_21, e_X9_carryOut_22, e_X9_carryOut_25, e_X9_carryOut_26, e_X9_carryOut_29, e_X9_carryOut_30, e_X9_carryOut_31, e_X9_carryOut_32, e_X9_carryOut_35, e_X9_carryOut_36, e_X9_carryOut_39, e_X9_carryOut_40, e_X9_carryOut_41, e_X9_carryOut_42, e_X9_carryOut_43, e_X9_carryOut_44, e_X9_carryOut_47, e_X9_carryOut_48, e_X9_carryOut_51, e_X9_carryOut_52, e_X9_carryOut_53, e_X9_carryOut_54, e_X9_carryOut_55, e_X9_carryOut_56, e_X9_carryOut_59, e_X9_carryOut_60, e_X9_carryOut_63, e_X9_carryOut_64, e_X9_carryOut_67, e_X9_carryOut_70, e_X9_carryOut_71, e_X9_carryOut_74, e_X9_carryOut_77, e_X9_carryOut_79, e_X9_carryOut_82, e_X9_carryOut_83, e_X9_carryOut_86, e_X9_carryOut_87, e_X9_carryOut_90, e_X9_carryOut_91, e_X9_carryOut_94, e_X9_carryOut_97, e_X9_carryOut_100, e_X9_carryOut_101, e_X9_carryOut_104, e_X9_carryOut_107, e_X9_carryOut_109, e_X9_carryOut_112, e_X9_carryOut_113, e_X9_carryOut_116, e_X9_carryOut_117, e_X9_carryOut_120, e_X9_carryOut_121, e_X9_carryOut_124, e_X9_carryOut_125, e_X9_carryOut_128, e_X9_carryOut_131, e_X9_carryOut_134, e_X9_carryOut_135, e_X9_carryOut_137, e_X9_carryOut_138, e_X9_carryOut_141, e_X9_carryOut_144, e_X9_carryOut_147, e_X9_carryOut_150, e_X9_carryOut_151, e_X9_carryOut_154, e_X9_carryOut_155, e_X9_carryOut_158, e_X9_carryOut_159, e_X9_carryOut_162, e_X9_carryOut_165, e_X9_carryOut_168, e_X9_carryOut_172, e_X9_carryOut_175, e_X9_carryOut_176, e_X9_carryOut_179, e_X9_carryOut_182, e_X9_carryOut_185, e_X9_carryOut_188, e_X9_carryOut_189, e_X9_carryOut_192, e_X9_carryOut_195, e_X9_carryOut_196, e_X1_nps_0, e_X1_nps_1, e_X1_nps_4, rg_0_4 hR, rg_17_0 hR, hq', q_le, Nat.le_refl, if_true, Option.getD_some, Option.bind_some, Option.toList_some, Option.toList_none, List.cons_append, List.nil_append]
  | succ g ih =>
    intro k I hk f1 f2 h1 h2
    have c : ¬ pP q ≤ k := by omega
    have hl := men_le (T := T) (mn := mn) (M := M) (v := v) k
    have hq' : I 18 4 = nI (pP q) := by rw [f1 18 (by omega) (by omega)]; exact hq
    have hme := x_meantBy (e := e) (I := I) (L := L) (k := k) hR (by omega)
    rw [f1 29 (by omega) (by omega), hm k (by omega)] at hme
    have hmt := x_ment (e := e) (L := L) (V := mn k) hR h16 h1 (by omega)
    have hst : men T mn M v (k + 1) = if cn (mn k) T = 1 then ((men T mn M v k).1 + 1, updf (men T mn M v k).2 (men T mn M v k).1 (ff (fun z => mn k z = true) 0 T)) else men T mn M v k := rfl
    by_cases hc1 : cn (mn k) T = 1
    · rw [if_pos hc1] at hmt hst
      obtain ⟨I2, hE, k1, k2, k3, k4⟩ := ih (k + 1) (rt_up (rt_up I 16 (men T mn M v k).1 (ff (fun z => mn k z = true) 0 T)) 15 1 (nI ((men T mn M v k).1 + 1))) (by omega) (fun c a1 a2 => by rw [rt_up_f a1, rt_up_f a2]; exact f1 c a1 a2) (fun i hi => by rw [rt_up_n2 hi, rt_up_n1 (by omega)]; exact f2 i hi) (by rw [rt_up_eq, hst]) (fun i hi => by
        rw [hst] at hi ⊢
        rw [rt_up_n1 (by omega)]
        show _ = updf (men T mn M v k).2 (men T mn M v k).1 (ff (fun z => mn k z = true) 0 T) i
        by_cases hie : i = (men T mn M v k).1
        · subst hie; rw [rt_up_eq, updf_s]
        · rw [rt_up_n2 hie, updf_n hie]
          exact h2 i (by have : i < (men T mn M v k).1 + 1 := hi; omega))
      refine ⟨I2, ?_, k1, k2, k3, k4⟩
      rw [e_X9_carryOut_136]
      simp (disch := first | exact rt_bo_0 | exact rt_bo_1 | exact ns_float | exact ns_int | exact ns_ref | assumption | omega | (simp (disch := omega) only [ob_0, rg_0_0 hR, rg_0_1 hR, rg_0_2 hR, rg_0_3 hR, rg_0_4 hR, rg_0_5 hR, rg_0_6 hR, ob_15, rg_15_0 hR, ar_16, ln_16, ob_17, rg_17_0 hR, rg_17_1 hR, rg_17_2 hR, ar_26, ln_26, ob_18, rg_18_0 hR, ar_19, ln_19, rg_18_1 hR, ar_20, ln_20, rg_18_2 hR, ar_21, ln_21, rg_18_3 hR, ar_22, ln_22, ob_27, rg_27_0 hR, rg_27_1 hR, rg_27_2 hR, rg_27_3 hR, ar_28, ln_28, rg_27_4 hR, ar_29, ln_29, rg_27_5 hR, ar_30, ln_30, rt_in_nI, Option.isSome_some, Option.getD_some, Bool.or_true, Bool.true_or]; done) | fail) only [e_X9_carryOut_0, e_X9_carryOut_1, e_X9_carryOut_4, e_X9_carryOut_7, e_X9_carryOut_8, e_X9_carryOut_9, e_X9_carryOut_11, e_X9_carryOut_12, e_X9_carryOut_15, e_X9_carryOut_18, e_X9_carryOut_21, e_X9_carryOut_22, e_X9_carryOut_25, e_X9_carryOut_26, e_X9_carryOut_29, e_X9_carryOut_30, e_X9_carryOut_31, e_X9_carryOut_32, e_X9_carryOut_35, e_X9_carryOut_36, e_X9_carryOut_39, e_X9_carryOut_40, e_X9_carryOut_41, e_X9_carryOut_42, e_X9_carryOut_43, e_X9_carryOut_44, e_X9_carryOut_47, e_X9_carryOut_48, e_X9_carryOut_51, e_X9_carryOut_52, e_X9_carryOut_53, e_X9_carryOut_54, e_X9_carryOut_55, e_X9_carryOut_56, e_X9_carryOut_59, e_X9_carryOut_60, e_X9_carryOut_63, e_X9_carryOut_64, e_X9_carryOut_67, e_X9_carryOut_70, e_X9_carryOut_71, e_X9_carryOut_74, e_X9_carryOut_77, e_X9_carryOut_79, e_X9_carryOut_82, e_X9_carryOut_83, e_X9_carryOut_86, e_X9_carryOut_87, e_X9_carryOut_90, e_X9_carryOut_91, e_X9_carryOut_94, e_X9_carryOut_97, e_X9_carryOut_100, e_X9_carryOut_101, e_X9_carryOut_104, e_X9_carryOut_107, e_X9_carryOut_109, e_X9_carryOut_112, e_X9_carryOut_113, e_X9_carryOut_116, e_X9_carryOut_117, e_X9_carryOut_120, e_X9_carryOut_121, e_X9_carryOut_124, e_X9_carryOut_125, e_X9_carryOut_128, e_X9_carryOut_131, e_X9_carryOut_134, e_X9_carryOut_135, e_X9_carryOut_137, e_X9_carryOut_138, e_X9_carryOut_141, e_X9_carryOut_144, e_X9_carryOut_147, e_X9_carryOut_150, e_X9_carryOut_151, e_X9_carryOut_154, e_X9_carryOut_155, e_X9_carryOut_158, e_X9_carryOut_159, e_X9_carryOut_162, e_X9_carryOut_165, e_X9_carryOut_168, e_X9_carryOut_172, e_X9_carryOut_175, e_X9_carryOut_176, e_X9_carryOut_179, e_X9_carryOut_182, e_X9_carryOut_185, e_X9_carryOut_188, e_X9_carryOut_189, e_X9_carryOut_192, e_X9_carryOut_195, e_X9_carryOut_196, e_X1_nps_0, e_X1_nps_1, e_X1_nps_4, rg_0_3 hR, rg_0_4 hR, rg_0_5 hR, rg_17_0 hR, hq', q_le, q_s, c, hme, hmt, if_false, Option.getD_some, Option.bind_some, Option.toList_some, Option.toList_none, List.cons_append, List.nil_append]
      exact hE
    · rw [if_neg hc1] at hmt hst
      obtain ⟨I2, hE, k1, k2, k3, k4⟩ := ih (k + 1) I (by omega) f1 f2 (by rw [hst]; exact h1) (by rw [hst]; exact h2)
      refine ⟨I2, ?_, k1, k2, k3, k4⟩
      rw [e_X9_carryOut_136]
      simp (disch := first | exact rt_bo_0 | exact rt_bo_1 | exact ns_float | exact ns_int | exact ns_ref | assumption | omega | (simp (disch := omega) only [ob_0, rg_0_0 hR, rg_0_1 hR, rg_0_2 hR, rg_0_3 hR, rg_0_4 hR, rg_0_5 hR, rg_0_6 hR, ob_15, rg_15_0 hR, ar_16, ln_16, ob_17, rg_17_0 hR, rg_17_1 hR, rg_17_2 hR, ar_26, ln_26, ob_18, rg_18_0 hR, ar_19, ln_19, rg_18_1 hR, ar_20, ln_20, rg_18_2 hR, ar_21, ln_21, rg_18_3 hR, ar_22, ln_22, ob_27, rg_27_0 hR, rg_27_1 hR, rg_27_2 hR, rg_27_3 hR, ar_28, ln_28, rg_27_4 hR, ar_29, ln_29, rg_27_5 hR, ar_30, ln_30, rt_in_nI, Option.isSome_some, Option.getD_some, Bool.or_true, Bool.true_or]; done) | fail) only [e_X9_carryOut_0, e_X9_carryOut_1, e_X9_carryOut_4, e_X9_carryOut_7, e_X9_carryOut_8, e_X9_carryOut_9, e_X9_carryOut_11, e_X9_carryOut_12, e_X9_carryOut_15, e_X9_carryOut_18, e_X9_carryOut_21, e_X9_carryOut_22, e_X9_carryOut_25, e_X9_carryOut_26, e_X9_carryOut_29, e_X9_carryOut_30, e_X9_carryOut_31, e_X9_carryOut_32, e_X9_carryOut_35, e_X9_carryOut_36, e_X9_carryOut_39, e_X9_carryOut_40, e_X9_carryOut_41, e_X9_carryOut_42, e_X9_carryOut_43, e_X9_carryOut_44, e_X9_carryOut_47, e_X9_carryOut_48, e_X9_carryOut_51, e_X9_carryOut_52, e_X9_carryOut_53, e_X9_carryOut_54, e_X9_carryOut_55, e_X9_carryOut_56, e_X9_carryOut_59, e_X9_carryOut_60, e_X9_carryOut_63, e_X9_carryOut_64, e_X9_carryOut_67, e_X9_carryOut_70, e_X9_carryOut_71, e_X9_carryOut_74, e_X9_carryOut_77, e_X9_carryOut_79, e_X9_carryOut_82, e_X9_carryOut_83, e_X9_carryOut_86, e_X9_carryOut_87, e_X9_carryOut_90, e_X9_carryOut_91, e_X9_carryOut_94, e_X9_carryOut_97, e_X9_carryOut_100, e_X9_carryOut_101, e_X9_carryOut_104, e_X9_carryOut_107, e_X9_carryOut_109, e_X9_carryOut_112, e_X9_carryOut_113, e_X9_carryOut_116, e_X9_carryOut_117, e_X9_carryOut_120, e_X9_carryOut_121, e_X9_carryOut_124, e_X9_carryOut_125, e_X9_carryOut_128, e_X9_carryOut_131, e_X9_carryOut_134, e_X9_carryOut_135, e_X9_carryOut_137, e_X9_carryOut_138, e_X9_carryOut_141, e_X9_carryOut_144, e_X9_carryOut_147, e_X9_carryOut_150, e_X9_carryOut_151, e_X9_carryOut_154, e_X9_carryOut_155, e_X9_carryOut_158, e_X9_carryOut_159, e_X9_carryOut_162, e_X9_carryOut_165, e_X9_carryOut_168, e_X9_carryOut_172, e_X9_carryOut_175, e_X9_carryOut_176, e_X9_carryOut_179, e_X9_carryOut_182, e_X9_carryOut_185, e_X9_carryOut_188, e_X9_carryOut_189, e_X9_carryOut_192, e_X9_carryOut_195, e_X9_carryOut_196, e_X1_nps_0, e_X1_nps_1, e_X1_nps_4, rg_0_3 hR, rg_0_4 hR, rg_0_5 hR, rg_17_0 hR, hq', q_le, q_s, c, hme, hmt, if_false, Option.getD_some, Option.bind_some, Option.toList_some, Option.toList_none, List.cons_append, List.nil_append]
      exact hE
theorem m_men_l (hR : RG R a b) (h16 : T ≤ 16) (hP7 : pP q ≤ 7) (h420 : M + pP q ≤ 420) (hq : J 47 0 = nI (pP q)) (hm : ∀ j, j < pP q → J 63 j = bs (mn j) T) : ∀ (g k : Nat) (I : Nat → Nat → Int32), k + g = pP q → (∀ c, c ≠ 33 → c ≠ 62 → I c = J c) → (∀ i, i ≠ 47 → I 33 i = J 33 i) → I 33 47 = nI (men T mn M v k).1 → (∀ i, i < (men T mn M v k).1 → I 62 i = (men T mn M v k).2 i) →
    ∃ I2, Ev mX10_done 56 [.ref 33, .int x, .int (nI k)] [] (71 + e, I, L, R) = Ev mX10_done 116 [.ref 33, .int x, .int (nI (pP q))] [] (71 + e, I2, L, R) ∧ (∀ c, c ≠ 33 → c ≠ 62 → I2 c = J c) ∧ (∀ i, i ≠ 47 → I2 33 i = J 33 i) ∧ I2 33 47 = nI (men T mn M v (pP q)).1 ∧ ∀ i, i < (men T mn M v (pP q)).1 → I2 62 i = (men T mn M v (pP q)).2 i := by
  intro g
  have e1 : (1 : Int32) = nI 1 := rfl
  induction g with
  | zero =>
    intro k I hk f1 f2 h1 h2
    have hk' : k = pP q := by omega
    subst hk'
    refine ⟨I, ?_, f1, f2, h1, h2⟩
    have hq' : I 47 0 = nI (pP q) := by rw [f1 47 (by omega) (by omega)]; exact hq
    rw [e_X10_done_56]
    simp (disch := first | exact rt_bo_0 | exact rt_bo_1 | exact ns_float | exact ns_int | exact ns_ref | assumption | omega | (simp (disch := omega) only [ob_33, rg_33_2 hR, ar_34, ln_34, rg_33_3 hR, ar_35, ln_35, rg_33_4 hR, ar_36, ln_36, rg_33_5 hR, ar_37, ln_37, rg_33_6 hR, ar_38, ln_38, rg_33_7 hR, ar_39, ln_39, rg_33_8 hR, ar_40, ln_40, rg_33_9 hR, ar_41, ln_41, rg_33_10 hR, ar_42, ln_42, rg_33_11 hR, ar_43, ln_43, rg_33_12 hR, ar_44, ln_44, rg_33_19 hR, ar_45, ln_45, rg_33_20 hR, ar_46, ln_46, rg_33_23 hR, ar_47, ln_47, rg_33_24 hR, ar_48, ln_48, rg_33_25 hR, ar_49, ln_49, rg_33_26 hR, ar_50, ln_50, rg_33_27 hR, ar_51, ln_51, rg_33_28 hR, ar_52, ln_52, rg_33_29 hR, ar_53, ln_53, rg_33_30 hR, ar_54, ln_54, rg_33_39 hR, ar_55, ln_55, rg_33_40 hR, ar_56, ln_56, rg_33_41 hR, ar_57, ln_57, rg_33_42 hR, ar_58, ln_58, rg_33_43 hR, ar_59, ln_59, rg_33_44 hR, ar_60, ln_60, rg_33_45 hR, ar_61, ln_61, rg_33_48 hR, ar_62, ln_62, rg_33_49 hR, ar_63, ln_63, rg_33_50 hR, ar_64, ln_64, rg_33_56 hR, ar_65, ln_65, rg_33_57 hR, ar_66, ln_66, rg_33_58 hR, ar_67, ln_67, rg_33_59 hR, ar_68, ln_68, rg_33_66 hR, ar_69, ln_69, rg_33_67 hR, ar_70, ln_70, rt_in_0, rt_in_nI, Option.isSome_some, Option.getD_some, Bool.or_true, Bool.true_or]; done) | fail) only [e_X10_done_0, e_X10_done_1, e_X10_done_4, e_X10_done_7, e_X10_done_8, e_X10_done_9, e_X10_done_10, e_X10_done_13, e_X10_done_14, e_X10_done_15, e_X10_done_18, e_X10_done_20, e_X10_done_21, e_X10_done_22, e_X10_done_25, e_X10_done_28, e_X10_done_31, e_X10_done_32, e_X10_done_35, e_X10_done_36, e_X10_done_39, e_X10_done_41, e_X10_done_44, e_X10_done_45, e_X10_done_48, e_X10_done_51, e_X10_done_53, e_X10_done_54, e_X10_done_55, e_X10_done_57, e_X10_done_58, e_X10_done_61, e_X10_done_62, e_X10_done_63, e_X10_done_66, e_X10_done_67, e_X10_done_70, e_X10_done_71, e_X10_done_72, e_X10_done_75, e_X10_done_76, e_X10_done_79, e_X10_done_82, e_X10_done_83, e_X10_done_86, e_X10_done_87, e_X10_done_90, e_X10_done_91, e_X10_done_94, e_X10_done_95, e_X10_done_96, e_X10_done_99, e_X10_done_100, e_X10_done_101, e_X10_done_102, e_X10_done_105, e_X10_done_106, e_X10_done_107, e_X10_done_110, e_X10_done_113, e_X10_done_117, e_X10_done_120, e_X10_done_122, e_X10_done_125, e_X10_done_126, e_X10_done_127, e_X10_done_130, e_X10_done_131, e_X10_done_134, e_X10_done_136, e_X10_done_139, e_X10_done_140, e_X10_done_143, e_X10_done_145, e_X10_done_148, e_X10_done_149, e_X10_done_152, e_X10_done_153, e_X10_done_156, e_X10_done_157, e_X10_done_160, e_X10_done_161, e_X10_done_162, e_X10_done_163, e_X10_done_164, e_X10_done_167, e_X10_done_168, e_X10_done_171, e_X10_done_172, e_X10_done_175, e_X10_done_177, e_X10_done_180, e_X10_done_181, e_X10_done_184, e_X10_done_185, e_X10_done_185z, e_X10_done_186, e_X10_done_187, e_X10_done_188, e_X10_done_191, e_X10_done_192, e_X10_done_193, e_X10_done_196, e_X10_done_197, e_X10_done_198, e_X10_done_199, e_X10_done_200, e_X10_done_203, e_X10_done_206, e_X10_done_207, e_X10_done_210, e_X10_done_213, e_X10_done_216, e_X10_done_217, e_X10_done_218, e_X10_done_221, e_X10_done_222, e_X10_done_223, e_X10_done_224, e_X10_done_227, e_X10_done_228, e_X10_done_229, e_X10_done_230, e_X10_done_233, e_X10_done_234, e_X10_done_235, e_X10_done_236, e_X10_done_239, e_X10_done_242, e_X10_done_245, e_X10_done_248, e_X10_done_249, e_X10_done_252, e_X10_done_253, e_X10_done_254, e_X10_done_257, e_X10_done_258, e_X10_done_259, e_X10_done_262, e_X10_done_263, e_X10_done_264, e_X10_done_267, e_X10_done_268, e_X10_done_271, e_X10_done_272, e_X10_done_273, rg_33_23 hR, cl_0, hq', q_le, Nat.le_refl, if_true, Option.getD_some, Option.bind_some, Option.toList_some, Option.toList_none, List.cons_append, List.nil_append]
  | succ g ih =>
    intro k I hk f1 f2 h1 h2
    have c : ¬ pP q ≤ k := by omega
    have hl := men_le (T := T) (mn := mn) (M := M) (v := v) k
    have hq' : I 47 0 = nI (pP q) := by rw [f1 47 (by omega) (by omega)]; exact hq
    have hs : I 63 k = bs (mn k) T := by rw [f1 63 (by omega) (by omega)]; exact hm k (by omega)
    have hcn := cn_le (mn k) T
    have q1 : (nI (cn (mn k) T) = 1) = (cn (mn k) T = 1) := by rw [e1, q_eq (by omega) (by omega)]
    have hst : men T mn M v (k + 1) = if cn (mn k) T = 1 then ((men T mn M v k).1 + 1, updf (men T mn M v k).2 (men T mn M v k).1 (ff (fun z => mn k z = true) 0 T)) else men T mn M v k := rfl
    by_cases hc1 : cn (mn k) T = 1
    · rw [if_pos hc1] at hst
      obtain ⟨j, j1, j2, -, -⟩ := bs_single h16 hc1
      have hlo := fun h => m_low (V := mn k) h16 ⟨j, j1, j2⟩ (h := h)
      obtain ⟨I2, hE, k1, k2, k3, k4⟩ := ih (k + 1) (rt_up (rt_up I 62 (men T mn M v k).1 (ff (fun z => mn k z = true) 0 T)) 33 47 (nI ((men T mn M v k).1 + 1))) (by omega) (fun c a1 a2 => by rw [rt_up_f a1, rt_up_f a2]; exact f1 c a1 a2) (fun i hi => by rw [rt_up_n2 hi, rt_up_n1 (by omega)]; exact f2 i hi) (by rw [rt_up_eq, hst]) (fun i hi => by
        rw [hst] at hi ⊢
        rw [rt_up_n1 (by omega)]
        show _ = updf (men T mn M v k).2 (men T mn M v k).1 (ff (fun z => mn k z = true) 0 T) i
        by_cases hie : i = (men T mn M v k).1
        · subst hie; rw [rt_up_eq, updf_s]
        · rw [rt_up_n2 hie, updf_n hie]
          exact h2 i (by have : i < (men T mn M v k).1 + 1 := hi; omega))
      refine ⟨I2, ?_, k1, k2, k3, k4⟩
      rw [e_X10_done_56]
      simp (disch := first | exact rt_bo_0 | exact rt_bo_1 | exact ns_float | exact ns_int | exact ns_ref | assumption | omega | (simp (disch := omega) only [ob_33, rg_33_2 hR, ar_34, ln_34, rg_33_3 hR, ar_35, ln_35, rg_33_4 hR, ar_36, ln_36, rg_33_5 hR, ar_37, ln_37, rg_33_6 hR, ar_38, ln_38, rg_33_7 hR, ar_39, ln_39, rg_33_8 hR, ar_40, ln_40, rg_33_9 hR, ar_41, ln_41, rg_33_10 hR, ar_42, ln_42, rg_33_11 hR, ar_43, ln_43, rg_33_12 hR, ar_44, ln_44, rg_33_19 hR, ar_45, ln_45, rg_33_20 hR, ar_46, ln_46, rg_33_23 hR, ar_47, ln_47, rg_33_24 hR, ar_48, ln_48, rg_33_25 hR, ar_49, ln_49, rg_33_26 hR, ar_50, ln_50, rg_33_27 hR, ar_51, ln_51, rg_33_28 hR, ar_52, ln_52, rg_33_29 hR, ar_53, ln_53, rg_33_30 hR, ar_54, ln_54, rg_33_39 hR, ar_55, ln_55, rg_33_40 hR, ar_56, ln_56, rg_33_41 hR, ar_57, ln_57, rg_33_42 hR, ar_58, ln_58, rg_33_43 hR, ar_59, ln_59, rg_33_44 hR, ar_60, ln_60, rg_33_45 hR, ar_61, ln_61, rg_33_48 hR, ar_62, ln_62, rg_33_49 hR, ar_63, ln_63, rg_33_50 hR, ar_64, ln_64, rg_33_56 hR, ar_65, ln_65, rg_33_57 hR, ar_66, ln_66, rg_33_58 hR, ar_67, ln_67, rg_33_59 hR, ar_68, ln_68, rg_33_66 hR, ar_69, ln_69, rg_33_67 hR, ar_70, ln_70, rt_in_0, rt_in_nI, Option.isSome_some, Option.getD_some, Bool.or_true, Bool.true_or]; done) | fail) only [e_X10_done_0, e_X10_done_1, e_X10_done_4, e_X10_done_7, e_X10_done_8, e_X10_done_9, e_X10_done_10, e_X10_done_13, e_X10_done_14, e_X10_done_15, e_X10_done_18, e_X10_done_20, e_X10_done_21, e_X10_done_22, e_X10_done_25, e_X10_done_28, e_X10_done_31, e_X10_done_32, e_X10_done_35, e_X10_done_36, e_X10_done_39, e_X10_done_41, e_X10_done_44, e_X10_done_45, e_X10_done_48, e_X10_done_51, e_X10_done_53, e_X10_done_54, e_X10_done_55, e_X10_done_57, e_X10_done_58, e_X10_done_61, e_X10_done_62, e_X10_done_63, e_X10_done_66, e_X10_done_67, e_X10_done_70, e_X10_done_71, e_X10_done_72, e_X10_done_75, e_X10_done_76, e_X10_done_79, e_X10_done_82, e_X10_done_83, e_X10_done_86, e_X10_done_87, e_X10_done_90, e_X10_done_91, e_X10_done_94, e_X10_done_95, e_X10_done_96, e_X10_done_99, e_X10_done_100, e_X10_done_101, e_X10_done_102, e_X10_done_105, e_X10_done_106, e_X10_done_107, e_X10_done_110, e_X10_done_113, e_X10_done_117, e_X10_done_120, e_X10_done_122, e_X10_done_125, e_X10_done_126, e_X10_done_127, e_X10_done_130, e_X10_done_131, e_X10_done_134, e_X10_done_136, e_X10_done_139, e_X10_done_140, e_X10_done_143, e_X10_done_145, e_X10_done_148, e_X10_done_149, e_X10_done_152, e_X10_done_153, e_X10_done_156, e_X10_done_157, e_X10_done_160, e_X10_done_161, e_X10_done_162, e_X10_done_163, e_X10_done_164, e_X10_done_167, e_X10_done_168, e_X10_done_171, e_X10_done_172, e_X10_done_175, e_X10_done_177, e_X10_done_180, e_X10_done_181, e_X10_done_184, e_X10_done_185, e_X10_done_185z, e_X10_done_186, e_X10_done_187, e_X10_done_188, e_X10_done_191, e_X10_done_192, e_X10_done_193, e_X10_done_196, e_X10_done_197, e_X10_done_198, e_X10_done_199, e_X10_done_200, e_X10_done_203, e_X10_done_206, e_X10_done_207, e_X10_done_210, e_X10_done_213, e_X10_done_216, e_X10_done_217, e_X10_done_218, e_X10_done_221, e_X10_done_222, e_X10_done_223, e_X10_done_224, e_X10_done_227, e_X10_done_228, e_X10_done_229, e_X10_done_230, e_X10_done_233, e_X10_done_234, e_X10_done_235, e_X10_done_236, e_X10_done_239, e_X10_done_242, e_X10_done_245, e_X10_done_248, e_X10_done_249, e_X10_done_252, e_X10_done_253, e_X10_done_254, e_X10_done_257, e_X10_done_258, e_X10_done_259, e_X10_done_262, e_X10_done_263, e_X10_done_264, e_X10_done_267, e_X10_done_268, e_X10_done_271, e_X10_done_272, e_X10_done_273, rg_33_23 hR, rg_33_48 hR, rg_33_49 hR, cl_0, nI_cl, hq', q_le, q_s, c, hs, m_bits h16, q1, hc1, h1, hlo, rt_up_n1, if_true, if_false, Option.getD_some, Option.bind_some, Option.toList_some, Option.toList_none, List.cons_append, List.nil_append]
      exact hE
    · rw [if_neg hc1] at hst
      obtain ⟨I2, hE, k1, k2, k3, k4⟩ := ih (k + 1) I (by omega) f1 f2 (by rw [hst]; exact h1) (by rw [hst]; exact h2)
      refine ⟨I2, ?_, k1, k2, k3, k4⟩
      rw [e_X10_done_56]
      simp (disch := first | exact rt_bo_0 | exact rt_bo_1 | exact ns_float | exact ns_int | exact ns_ref | assumption | omega | (simp (disch := omega) only [ob_33, rg_33_2 hR, ar_34, ln_34, rg_33_3 hR, ar_35, ln_35, rg_33_4 hR, ar_36, ln_36, rg_33_5 hR, ar_37, ln_37, rg_33_6 hR, ar_38, ln_38, rg_33_7 hR, ar_39, ln_39, rg_33_8 hR, ar_40, ln_40, rg_33_9 hR, ar_41, ln_41, rg_33_10 hR, ar_42, ln_42, rg_33_11 hR, ar_43, ln_43, rg_33_12 hR, ar_44, ln_44, rg_33_19 hR, ar_45, ln_45, rg_33_20 hR, ar_46, ln_46, rg_33_23 hR, ar_47, ln_47, rg_33_24 hR, ar_48, ln_48, rg_33_25 hR, ar_49, ln_49, rg_33_26 hR, ar_50, ln_50, rg_33_27 hR, ar_51, ln_51, rg_33_28 hR, ar_52, ln_52, rg_33_29 hR, ar_53, ln_53, rg_33_30 hR, ar_54, ln_54, rg_33_39 hR, ar_55, ln_55, rg_33_40 hR, ar_56, ln_56, rg_33_41 hR, ar_57, ln_57, rg_33_42 hR, ar_58, ln_58, rg_33_43 hR, ar_59, ln_59, rg_33_44 hR, ar_60, ln_60, rg_33_45 hR, ar_61, ln_61, rg_33_48 hR, ar_62, ln_62, rg_33_49 hR, ar_63, ln_63, rg_33_50 hR, ar_64, ln_64, rg_33_56 hR, ar_65, ln_65, rg_33_57 hR, ar_66, ln_66, rg_33_58 hR, ar_67, ln_67, rg_33_59 hR, ar_68, ln_68, rg_33_66 hR, ar_69, ln_69, rg_33_67 hR, ar_70, ln_70, rt_in_0, rt_in_nI, Option.isSome_some, Option.getD_some, Bool.or_true, Bool.true_or]; done) | fail) only [e_X10_done_0, e_X10_done_1, e_X10_done_4, e_X10_done_7, e_X10_done_8, e_X10_done_9, e_X10_done_10, e_X10_done_13, e_X10_done_14, e_X10_done_15, e_X10_done_18, e_X10_done_20, e_X10_done_21, e_X10_done_22, e_X10_done_25, e_X10_done_28, e_X10_done_31, e_X10_done_32, e_X10_done_35, e_X10_done_36, e_X10_done_39, e_X10_done_41, e_X10_done_44, e_X10_done_45, e_X10_done_48, e_X10_done_51, e_X10_done_53, e_X10_done_54, e_X10_done_55, e_X10_done_57, e_X10_done_58, e_X10_done_61, e_X10_done_62, e_X10_done_63, e_X10_done_66, e_X10_done_67, e_X10_done_70, e_X10_done_71, e_X10_done_72, e_X10_done_75, e_X10_done_76, e_X10_done_79, e_X10_done_82, e_X10_done_83, e_X10_done_86, e_X10_done_87, e_X10_done_90, e_X10_done_91, e_X10_done_94, e_X10_done_95, e_X10_done_96, e_X10_done_99, e_X10_done_100, e_X10_done_101, e_X10_done_102, e_X10_done_105, e_X10_done_106, e_X10_done_107, e_X10_done_110, e_X10_done_113, e_X10_done_117, e_X10_done_120, e_X10_done_122, e_X10_done_125, e_X10_done_126, e_X10_done_127, e_X10_done_130, e_X10_done_131, e_X10_done_134, e_X10_done_136, e_X10_done_139, e_X10_done_140, e_X10_done_143, e_X10_done_145, e_X10_done_148, e_X10_done_149, e_X10_done_152, e_X10_done_153, e_X10_done_156, e_X10_done_157, e_X10_done_160, e_X10_done_161, e_X10_done_162, e_X10_done_163, e_X10_done_164, e_X10_done_167, e_X10_done_168, e_X10_done_171, e_X10_done_172, e_X10_done_175, e_X10_done_177, e_X10_done_180, e_X10_done_181, e_X10_done_184, e_X10_done_185, e_X10_done_185z, e_X10_done_186, e_X10_done_187, e_X10_done_188, e_X10_done_191, e_X10_done_192, e_X10_done_193, e_X10_done_196, e_X10_done_197, e_X10_done_198, e_X10_done_199, e_X10_done_200, e_X10_done_203, e_X10_done_206, e_X10_done_207, e_X10_done_210, e_X10_done_213, e_X10_done_216, e_X10_done_217, e_X10_done_218, e_X10_done_221, e_X10_done_222, e_X10_done_223, e_X10_done_224, e_X10_done_227, e_X10_done_228, e_X10_done_229, e_X10_done_230, e_X10_done_233, e_X10_done_234, e_X10_done_235, e_X10_done_236, e_X10_done_239, e_X10_done_242, e_X10_done_245, e_X10_done_248, e_X10_done_249, e_X10_done_252, e_X10_done_253, e_X10_done_254, e_X10_done_257, e_X10_done_258, e_X10_done_259, e_X10_done_262, e_X10_done_263, e_X10_done_264, e_X10_done_267, e_X10_done_268, e_X10_done_271, e_X10_done_272, e_X10_done_273, rg_33_23 hR, rg_33_49 hR, cl_0, nI_cl, hq', q_le, q_s, c, hs, m_bits h16, q1, hc1, if_true, if_false, Option.getD_some, Option.bind_some, Option.toList_some, Option.toList_none, List.cons_append, List.nil_append]
      exact hE
/-- the last noun of the phrase, by the class -/
theorem x_lnoun_l (hp : PH (71 + e) R 18) (hq : PX I 18 q) (hw : wfq nw q) (h8 : nw ≤ 8) : ∀ g, g ≤ pP q → Ev mX1_lastNoun 7 [.ref 18, .int (nI g + (-1))] [] (71 + e, I, L, R) = some (some (.int (oX (lnf q g))), (71 + e, I, L, R)) := by
  obtain ⟨o1, r0, r1, r2, r3, a1, a2, a3, a4, l1, l2, l3, l4⟩ := hp
  have hP7 := hw.1
  intro g
  induction g with
  | zero =>
    intro _
    have d : (nI 0 + (-1 : Int32) < 0) = True := by decide
    rw [e_X1_lastNoun_7]
    simp (disch := first | exact rt_bo_0 | exact rt_bo_1 | exact ns_float | exact ns_int | exact ns_ref | assumption | omega | (simp (disch := omega) only [o1, rt_in_nI, Option.isSome_some, Option.getD_some, Bool.or_true, Bool.true_or]; done) | fail) only [e_X1_lastNoun_0, e_X1_lastNoun_1, e_X1_lastNoun_4, e_X1_lastNoun_5, e_X1_lastNoun_6, e_X1_lastNoun_8, e_X1_lastNoun_11, e_X1_lastNoun_12, e_X1_lastNoun_15, e_X1_lastNoun_16, e_X1_lastNoun_17, e_X1_lastNoun_18, e_X1_lastNoun_21, e_X1_lastNoun_22, e_X1_lastNoun_25, e_X1_lastNoun_26, e_X1_lastNoun_27, e_X1_lastNoun_28, e_X1_lastNoun_31, e_X1_lastNoun_32, e_X1_lastNoun_35, e_X1_lastNoun_36, e_X1_lastNoun_37, e_X1_lastNoun_38, e_X1_lastNoun_41, e_X1_lastNoun_44, e_X1_lastNoun_45, d, lnf, oX, if_true]
  | succ g ih =>
    intro hg
    have e4 : (4 : Int32) = nI 4 := rfl
    obtain ⟨-, hn, -⟩ := hq.2.2.1 g (by omega)
    obtain ⟨k5, k6⟩ := hw.2.2.1 g (by omega)
    have hh := ih (by omega)
    rw [e_X1_lastNoun_7, pk_m1]
    have hn' : I 21 g = nnX q g := hn
    unfold nnX at hn'
    by_cases h2 : pK q g < 2
    · rw [if_pos h2] at hn'
      have hs : lnf q (g + 1) = lnf q g := by show (if 2 ≤ pK q g ∧ ¬ pN q g = 4 then some (pN q g) else lnf q g) = _; rw [if_neg (by omega)]
      rw [hs]
      simp (disch := first | exact rt_bo_0 | exact rt_bo_1 | exact ns_float | exact ns_int | exact ns_ref | assumption | omega | (simp (disch := omega) only [o1, r2, a3, l3, rt_in_nI, Option.isSome_some, Option.getD_some, Bool.or_true, Bool.true_or]; done) | fail) only [e_X1_lastNoun_0, e_X1_lastNoun_1, e_X1_lastNoun_4, e_X1_lastNoun_5, e_X1_lastNoun_6, e_X1_lastNoun_8, e_X1_lastNoun_11, e_X1_lastNoun_12, e_X1_lastNoun_15, e_X1_lastNoun_16, e_X1_lastNoun_17, e_X1_lastNoun_18, e_X1_lastNoun_21, e_X1_lastNoun_22, e_X1_lastNoun_25, e_X1_lastNoun_26, e_X1_lastNoun_27, e_X1_lastNoun_28, e_X1_lastNoun_31, e_X1_lastNoun_32, e_X1_lastNoun_35, e_X1_lastNoun_36, e_X1_lastNoun_37, e_X1_lastNoun_38, e_X1_lastNoun_41, e_X1_lastNoun_44, e_X1_lastNoun_45, q_l0, r2, nI_cl, hn', if_true, if_false, Option.getD_some, Option.bind_some, Option.toList_some, Option.toList_none, List.cons_append, List.nil_append]
      exact hh
    · rw [if_neg h2] at hn'
      have k7 := k6 (by omega)
      have q4 : (nI (pN q g) = 4) = (pN q g = 4) := by rw [e4, q_eq (by omega) (by omega)]
      have qm : (nI (pN q g) = -1) = False := q_e1 (by omega)
      by_cases h4 : pN q g = 4
      · have hs : lnf q (g + 1) = lnf q g := by show (if 2 ≤ pK q g ∧ ¬ pN q g = 4 then some (pN q g) else lnf q g) = _; rw [if_neg (by omega)]
        rw [hs]
        simp (disch := first | exact rt_bo_0 | exact rt_bo_1 | exact ns_float | exact ns_int | exact ns_ref | assumption | omega | (simp (disch := omega) only [o1, r2, a3, l3, rt_in_nI, Option.isSome_some, Option.getD_some, Bool.or_true, Bool.true_or]; done) | fail) only [e_X1_lastNoun_0, e_X1_lastNoun_1, e_X1_lastNoun_4, e_X1_lastNoun_5, e_X1_lastNoun_6, e_X1_lastNoun_8, e_X1_lastNoun_11, e_X1_lastNoun_12, e_X1_lastNoun_15, e_X1_lastNoun_16, e_X1_lastNoun_17, e_X1_lastNoun_18, e_X1_lastNoun_21, e_X1_lastNoun_22, e_X1_lastNoun_25, e_X1_lastNoun_26, e_X1_lastNoun_27, e_X1_lastNoun_28, e_X1_lastNoun_31, e_X1_lastNoun_32, e_X1_lastNoun_35, e_X1_lastNoun_36, e_X1_lastNoun_37, e_X1_lastNoun_38, e_X1_lastNoun_41, e_X1_lastNoun_44, e_X1_lastNoun_45, q_l0, r2, nI_cl, hn', q4, qm, h4, if_true, if_false, Option.getD_some, Option.bind_some, Option.toList_some, Option.toList_none, List.cons_append, List.nil_append]
        exact hh
      · have hs : lnf q (g + 1) = some (pN q g) := by show (if 2 ≤ pK q g ∧ ¬ pN q g = 4 then some (pN q g) else lnf q g) = _; rw [if_pos (by omega)]
        rw [hs]
        simp (disch := first | exact rt_bo_0 | exact rt_bo_1 | exact ns_float | exact ns_int | exact ns_ref | assumption | omega | (simp (disch := omega) only [o1, r2, a3, l3, rt_in_nI, Option.isSome_some, Option.getD_some, Bool.or_true, Bool.true_or]; done) | fail) only [e_X1_lastNoun_0, e_X1_lastNoun_1, e_X1_lastNoun_4, e_X1_lastNoun_5, e_X1_lastNoun_6, e_X1_lastNoun_8, e_X1_lastNoun_11, e_X1_lastNoun_12, e_X1_lastNoun_15, e_X1_lastNoun_16, e_X1_lastNoun_17, e_X1_lastNoun_18, e_X1_lastNoun_21, e_X1_lastNoun_22, e_X1_lastNoun_25, e_X1_lastNoun_26, e_X1_lastNoun_27, e_X1_lastNoun_28, e_X1_lastNoun_31, e_X1_lastNoun_32, e_X1_lastNoun_35, e_X1_lastNoun_36, e_X1_lastNoun_37, e_X1_lastNoun_38, e_X1_lastNoun_41, e_X1_lastNoun_44, e_X1_lastNoun_45, q_l0, r2, nI_cl, hn', q4, qm, h4, oX, if_true, if_false, Option.getD_some, Option.bind_some, Option.toList_some, Option.toList_none, List.cons_append, List.nil_append]
theorem x_lnoun (hp : PH (71 + e) R 18) (hq : PX I 18 q) (hw : wfq nw q) (h8 : nw ≤ 8) : Ev mX1_lastNoun 0 [.ref 18, .float 0] [] (71 + e, I, L, R) = some (some (.int (oX (lnf q (pP q)))), (71 + e, I, L, R)) := by
  have hh := x_lnoun_l (L := L) hp hq hw h8 (pP q) (Nat.le_refl _)
  obtain ⟨o1, -⟩ := hp
  have s1 : nI (pP q) - 1 = nI (pP q) + (-1) := by
    cases pP q with
    | zero => decide
    | succ m => rw [nI_pred, pk_m1]
  have h4 := hq.1
  simp (disch := first | exact rt_bo_0 | exact rt_bo_1 | exact ns_float | exact ns_int | exact ns_ref | assumption | omega | (simp (disch := omega) only [o1, rt_in_nI, Option.isSome_some, Option.getD_some, Bool.or_true, Bool.true_or]; done) | fail) only [e_X1_lastNoun_0, e_X1_lastNoun_1, e_X1_lastNoun_4, e_X1_lastNoun_5, e_X1_lastNoun_6, e_X1_lastNoun_8, e_X1_lastNoun_11, e_X1_lastNoun_12, e_X1_lastNoun_15, e_X1_lastNoun_16, e_X1_lastNoun_17, e_X1_lastNoun_18, e_X1_lastNoun_21, e_X1_lastNoun_22, e_X1_lastNoun_25, e_X1_lastNoun_26, e_X1_lastNoun_27, e_X1_lastNoun_28, e_X1_lastNoun_31, e_X1_lastNoun_32, e_X1_lastNoun_35, e_X1_lastNoun_36, e_X1_lastNoun_37, e_X1_lastNoun_38, e_X1_lastNoun_41, e_X1_lastNoun_44, e_X1_lastNoun_45, h4, s1, hh, Option.getD_some, Option.bind_some, Option.toList_some, Option.toList_none, List.cons_append, List.nil_append]
theorem m_lnoun_l (hR : RG R a b) (hq : PM J 0 q) (hw : wfq nw q) (h8 : nw ≤ 8) : ∀ (g k : Nat) (I : Nat → Nat → Int32), k + g = pP q → (∀ c, c ≠ 33 → I c = J c) → (∀ i, i ≠ 46 → I 33 i = J 33 i) → I 33 46 = oM (lnr q ln k) →
    ∃ I2, Ev mX10_keepsNoun 2 [.ref 33, .int (nI k)] [] (71 + e, I, L, R) = some (none, (71 + e, I2, L, R)) ∧ (∀ c, c ≠ 33 → I2 c = J c) ∧ (∀ i, i ≠ 46 → I2 33 i = J 33 i) ∧ I2 33 46 = oM (lnr q ln (pP q)) := by
  have hP7 := hw.1
  obtain ⟨p1, p2, p3, p4⟩ := hq
  intro g
  induction g with
  | zero =>
    intro k I hk f1 f2 h1
    have hk' : k = pP q := by omega
    subst hk'
    refine ⟨I, ?_, f1, f2, h1⟩
    have hq' : I 47 0 = nI (pP q) := by rw [f1 47 (by omega)]; exact p1
    rw [e_X10_keepsNoun_2]
    simp (disch := first | exact rt_bo_0 | exact rt_bo_1 | exact ns_float | exact ns_int | exact ns_ref | assumption | omega | (simp (disch := omega) only [ob_33, rg_33_2 hR, ar_34, ln_34, rg_33_3 hR, ar_35, ln_35, rg_33_4 hR, ar_36, ln_36, rg_33_5 hR, ar_37, ln_37, rg_33_6 hR, ar_38, ln_38, rg_33_7 hR, ar_39, ln_39, rg_33_8 hR, ar_40, ln_40, rg_33_9 hR, ar_41, ln_41, rg_33_10 hR, ar_42, ln_42, rg_33_11 hR, ar_43, ln_43, rg_33_12 hR, ar_44, ln_44, rg_33_19 hR, ar_45, ln_45, rg_33_20 hR, ar_46, ln_46, rg_33_23 hR, ar_47, ln_47, rg_33_24 hR, ar_48, ln_48, rg_33_25 hR, ar_49, ln_49, rg_33_26 hR, ar_50, ln_50, rg_33_27 hR, ar_51, ln_51, rg_33_28 hR, ar_52, ln_52, rg_33_29 hR, ar_53, ln_53, rg_33_30 hR, ar_54, ln_54, rg_33_39 hR, ar_55, ln_55, rg_33_40 hR, ar_56, ln_56, rg_33_41 hR, ar_57, ln_57, rg_33_42 hR, ar_58, ln_58, rg_33_43 hR, ar_59, ln_59, rg_33_44 hR, ar_60, ln_60, rg_33_45 hR, ar_61, ln_61, rg_33_48 hR, ar_62, ln_62, rg_33_49 hR, ar_63, ln_63, rg_33_50 hR, ar_64, ln_64, rg_33_56 hR, ar_65, ln_65, rg_33_57 hR, ar_66, ln_66, rg_33_58 hR, ar_67, ln_67, rg_33_59 hR, ar_68, ln_68, rg_33_66 hR, ar_69, ln_69, rg_33_67 hR, ar_70, ln_70, rt_in_0, rt_in_nI, Option.isSome_some, Option.getD_some, Bool.or_true, Bool.true_or]; done) | fail) only [e_X10_keepsNoun_0, e_X10_keepsNoun_1, e_X10_keepsNoun_3, e_X10_keepsNoun_4, e_X10_keepsNoun_7, e_X10_keepsNoun_8, e_X10_keepsNoun_9, e_X10_keepsNoun_12, e_X10_keepsNoun_13, e_X10_keepsNoun_14, e_X10_keepsNoun_17, e_X10_keepsNoun_18, e_X10_keepsNoun_19, e_X10_keepsNoun_20, e_X10_keepsNoun_23, e_X10_keepsNoun_24, e_X10_keepsNoun_27, e_X10_keepsNoun_28, e_X10_keepsNoun_29, e_X10_keepsNoun_31, e_X10_keepsNoun_34, e_X10_keepsNoun_35, e_X10_keepsNoun_38, e_X10_keepsNoun_39, e_X10_keepsNoun_40, e_X10_keepsNoun_43, e_X10_keepsNoun_44, e_X10_keepsNoun_47, e_X10_keepsNoun_50, e_X10_keepsNoun_53, e_X10_keepsNoun_56, rg_33_23 hR, cl_0, hq', q_le, Nat.le_refl, if_true, Option.getD_some, Option.bind_some, Option.toList_some, Option.toList_none, List.cons_append, List.nil_append]
  | succ g ih =>
    intro k I hk f1 f2 h1
    have c : ¬ pP q ≤ k := by omega
    have hq' : I 47 0 = nI (pP q) := by rw [f1 47 (by omega)]; exact p1
    obtain ⟨s1, s2, -⟩ := p3 k (by omega)
    rw [Nat.mul_zero, Nat.zero_add] at s1 s2
    have s1' : I 49 k = nI (pK q k) := by rw [f1 49 (by omega)]; exact s1
    have s2' : I 50 k = nnM q k := by rw [f1 50 (by omega)]; exact s2
    obtain ⟨k5, k6⟩ := hw.2.2.1 k (by omega)
    have e2 : (2 : Int32) = nI 2 := rfl
    have e28 : (28 : Int32) = nI 28 := rfl
    by_cases hc : 2 ≤ pK q k ∧ ¬ pN q k = 4
    · have hs : lnr q ln (k + 1) = some (pN q k) := by
        have : lnf q (k + 1) = some (pN q k) := by show (if 2 ≤ pK q k ∧ ¬ pN q k = 4 then some (pN q k) else lnf q k) = _; rw [if_pos hc]
        unfold lnr; rw [this]
      have k7 := k6 hc.1
      have hn : nnM q k = nI (rwd (pN q k)) := if_neg (by omega)
      have hr28 : rwd (pN q k) ≠ 28 ∧ rwd (pN q k) < 100 := by
        rcases k7 with h | h
        · rw [rwd4 h]; omega
        · rw [rwdT h.1]; omega
      obtain ⟨h28, h100⟩ := hr28
      have l2 : ¬ pK q k < 2 := by omega
      obtain ⟨I2, hE, k1, k2, k3⟩ := ih (k + 1) (rt_up I 33 46 (nI (rwd (pN q k)))) (by omega) (fun c hc => by rw [rt_up_f hc]; exact f1 c hc) (fun i hi => by rw [rt_up_n2 hi]; exact f2 i hi) (by rw [rt_up_eq, hs]; rfl)
      refine ⟨I2, ?_, k1, k2, k3⟩
      rw [e_X10_keepsNoun_2]
      simp (disch := first | exact rt_bo_0 | exact rt_bo_1 | exact ns_float | exact ns_int | exact ns_ref | assumption | omega | (simp (disch := omega) only [ob_33, rg_33_2 hR, ar_34, ln_34, rg_33_3 hR, ar_35, ln_35, rg_33_4 hR, ar_36, ln_36, rg_33_5 hR, ar_37, ln_37, rg_33_6 hR, ar_38, ln_38, rg_33_7 hR, ar_39, ln_39, rg_33_8 hR, ar_40, ln_40, rg_33_9 hR, ar_41, ln_41, rg_33_10 hR, ar_42, ln_42, rg_33_11 hR, ar_43, ln_43, rg_33_12 hR, ar_44, ln_44, rg_33_19 hR, ar_45, ln_45, rg_33_20 hR, ar_46, ln_46, rg_33_23 hR, ar_47, ln_47, rg_33_24 hR, ar_48, ln_48, rg_33_25 hR, ar_49, ln_49, rg_33_26 hR, ar_50, ln_50, rg_33_27 hR, ar_51, ln_51, rg_33_28 hR, ar_52, ln_52, rg_33_29 hR, ar_53, ln_53, rg_33_30 hR, ar_54, ln_54, rg_33_39 hR, ar_55, ln_55, rg_33_40 hR, ar_56, ln_56, rg_33_41 hR, ar_57, ln_57, rg_33_42 hR, ar_58, ln_58, rg_33_43 hR, ar_59, ln_59, rg_33_44 hR, ar_60, ln_60, rg_33_45 hR, ar_61, ln_61, rg_33_48 hR, ar_62, ln_62, rg_33_49 hR, ar_63, ln_63, rg_33_50 hR, ar_64, ln_64, rg_33_56 hR, ar_65, ln_65, rg_33_57 hR, ar_66, ln_66, rg_33_58 hR, ar_67, ln_67, rg_33_59 hR, ar_68, ln_68, rg_33_66 hR, ar_69, ln_69, rg_33_67 hR, ar_70, ln_70, rt_in_0, rt_in_nI, Option.isSome_some, Option.getD_some, Bool.or_true, Bool.true_or]; done) | fail) only [e_X10_keepsNoun_0, e_X10_keepsNoun_1, e_X10_keepsNoun_3, e_X10_keepsNoun_4, e_X10_keepsNoun_7, e_X10_keepsNoun_8, e_X10_keepsNoun_9, e_X10_keepsNoun_12, e_X10_keepsNoun_13, e_X10_keepsNoun_14, e_X10_keepsNoun_17, e_X10_keepsNoun_18, e_X10_keepsNoun_19, e_X10_keepsNoun_20, e_X10_keepsNoun_23, e_X10_keepsNoun_24, e_X10_keepsNoun_27, e_X10_keepsNoun_28, e_X10_keepsNoun_29, e_X10_keepsNoun_31, e_X10_keepsNoun_34, e_X10_keepsNoun_35, e_X10_keepsNoun_38, e_X10_keepsNoun_39, e_X10_keepsNoun_40, e_X10_keepsNoun_43, e_X10_keepsNoun_44, e_X10_keepsNoun_47, e_X10_keepsNoun_50, e_X10_keepsNoun_53, e_X10_keepsNoun_56, rg_33_23 hR, rg_33_25 hR, rg_33_26 hR, cl_0, nI_cl, hq', s1', s2', hn, e2, e28, q_le, q_lt, q_eq, q_s, c, l2, h28, if_true, if_false, Option.getD_some, Option.bind_some, Option.toList_some, Option.toList_none, List.cons_append, List.nil_append]
      exact hE
    · have hs : lnr q ln (k + 1) = lnr q ln k := by
        have : lnf q (k + 1) = lnf q k := by show (if 2 ≤ pK q k ∧ ¬ pN q k = 4 then some (pN q k) else lnf q k) = _; rw [if_neg hc]
        unfold lnr; rw [this]
      obtain ⟨I2, hE, k1, k2, k3⟩ := ih (k + 1) (rt_up I 33 46 (I 33 46)) (by omega) (fun c hc => by rw [rt_up_f hc]; exact f1 c hc) (fun i hi => by rw [rt_up_n2 hi]; exact f2 i hi) (by rw [rt_up_eq, hs]; exact h1)
      refine ⟨I2, ?_, k1, k2, k3⟩
      rw [e_X10_keepsNoun_2]
      by_cases l2 : pK q k < 2
      · simp (disch := first | exact rt_bo_0 | exact rt_bo_1 | exact ns_float | exact ns_int | exact ns_ref | assumption | omega | (simp (disch := omega) only [ob_33, rg_33_2 hR, ar_34, ln_34, rg_33_3 hR, ar_35, ln_35, rg_33_4 hR, ar_36, ln_36, rg_33_5 hR, ar_37, ln_37, rg_33_6 hR, ar_38, ln_38, rg_33_7 hR, ar_39, ln_39, rg_33_8 hR, ar_40, ln_40, rg_33_9 hR, ar_41, ln_41, rg_33_10 hR, ar_42, ln_42, rg_33_11 hR, ar_43, ln_43, rg_33_12 hR, ar_44, ln_44, rg_33_19 hR, ar_45, ln_45, rg_33_20 hR, ar_46, ln_46, rg_33_23 hR, ar_47, ln_47, rg_33_24 hR, ar_48, ln_48, rg_33_25 hR, ar_49, ln_49, rg_33_26 hR, ar_50, ln_50, rg_33_27 hR, ar_51, ln_51, rg_33_28 hR, ar_52, ln_52, rg_33_29 hR, ar_53, ln_53, rg_33_30 hR, ar_54, ln_54, rg_33_39 hR, ar_55, ln_55, rg_33_40 hR, ar_56, ln_56, rg_33_41 hR, ar_57, ln_57, rg_33_42 hR, ar_58, ln_58, rg_33_43 hR, ar_59, ln_59, rg_33_44 hR, ar_60, ln_60, rg_33_45 hR, ar_61, ln_61, rg_33_48 hR, ar_62, ln_62, rg_33_49 hR, ar_63, ln_63, rg_33_50 hR, ar_64, ln_64, rg_33_56 hR, ar_65, ln_65, rg_33_57 hR, ar_66, ln_66, rg_33_58 hR, ar_67, ln_67, rg_33_59 hR, ar_68, ln_68, rg_33_66 hR, ar_69, ln_69, rg_33_67 hR, ar_70, ln_70, rt_in_0, rt_in_nI, Option.isSome_some, Option.getD_some, Bool.or_true, Bool.true_or]; done) | fail) only [e_X10_keepsNoun_0, e_X10_keepsNoun_1, e_X10_keepsNoun_3, e_X10_keepsNoun_4, e_X10_keepsNoun_7, e_X10_keepsNoun_8, e_X10_keepsNoun_9, e_X10_keepsNoun_12, e_X10_keepsNoun_13, e_X10_keepsNoun_14, e_X10_keepsNoun_17, e_X10_keepsNoun_18, e_X10_keepsNoun_19, e_X10_keepsNoun_20, e_X10_keepsNoun_23, e_X10_keepsNoun_24, e_X10_keepsNoun_27, e_X10_keepsNoun_28, e_X10_keepsNoun_29, e_X10_keepsNoun_31, e_X10_keepsNoun_34, e_X10_keepsNoun_35, e_X10_keepsNoun_38, e_X10_keepsNoun_39, e_X10_keepsNoun_40, e_X10_keepsNoun_43, e_X10_keepsNoun_44, e_X10_keepsNoun_47, e_X10_keepsNoun_50, e_X10_keepsNoun_53, e_X10_keepsNoun_56, rg_33_23 hR, rg_33_25 hR, rg_33_26 hR, cl_0, nI_cl, hq', s1', e2, q_le, q_lt, q_s, c, l2, if_true, if_false, Option.getD_some, Option.bind_some, Option.toList_some, Option.toList_none, List.cons_append, List.nil_append]
        exact hE
      · have h4 : pN q k = 4 := by
          by_cases h4 : pN q k = 4
          · exact h4
          · exact absurd ⟨by omega, h4⟩ hc
        have hn : nnM q k = 28 := by unfold nnM; rw [if_neg l2, h4]; rfl
        simp (disch := first | exact rt_bo_0 | exact rt_bo_1 | exact ns_float | exact ns_int | exact ns_ref | assumption | omega | (simp (disch := omega) only [ob_33, rg_33_2 hR, ar_34, ln_34, rg_33_3 hR, ar_35, ln_35, rg_33_4 hR, ar_36, ln_36, rg_33_5 hR, ar_37, ln_37, rg_33_6 hR, ar_38, ln_38, rg_33_7 hR, ar_39, ln_39, rg_33_8 hR, ar_40, ln_40, rg_33_9 hR, ar_41, ln_41, rg_33_10 hR, ar_42, ln_42, rg_33_11 hR, ar_43, ln_43, rg_33_12 hR, ar_44, ln_44, rg_33_19 hR, ar_45, ln_45, rg_33_20 hR, ar_46, ln_46, rg_33_23 hR, ar_47, ln_47, rg_33_24 hR, ar_48, ln_48, rg_33_25 hR, ar_49, ln_49, rg_33_26 hR, ar_50, ln_50, rg_33_27 hR, ar_51, ln_51, rg_33_28 hR, ar_52, ln_52, rg_33_29 hR, ar_53, ln_53, rg_33_30 hR, ar_54, ln_54, rg_33_39 hR, ar_55, ln_55, rg_33_40 hR, ar_56, ln_56, rg_33_41 hR, ar_57, ln_57, rg_33_42 hR, ar_58, ln_58, rg_33_43 hR, ar_59, ln_59, rg_33_44 hR, ar_60, ln_60, rg_33_45 hR, ar_61, ln_61, rg_33_48 hR, ar_62, ln_62, rg_33_49 hR, ar_63, ln_63, rg_33_50 hR, ar_64, ln_64, rg_33_56 hR, ar_65, ln_65, rg_33_57 hR, ar_66, ln_66, rg_33_58 hR, ar_67, ln_67, rg_33_59 hR, ar_68, ln_68, rg_33_66 hR, ar_69, ln_69, rg_33_67 hR, ar_70, ln_70, rt_in_0, rt_in_nI, Option.isSome_some, Option.getD_some, Bool.or_true, Bool.true_or]; done) | fail) only [e_X10_keepsNoun_0, e_X10_keepsNoun_1, e_X10_keepsNoun_3, e_X10_keepsNoun_4, e_X10_keepsNoun_7, e_X10_keepsNoun_8, e_X10_keepsNoun_9, e_X10_keepsNoun_12, e_X10_keepsNoun_13, e_X10_keepsNoun_14, e_X10_keepsNoun_17, e_X10_keepsNoun_18, e_X10_keepsNoun_19, e_X10_keepsNoun_20, e_X10_keepsNoun_23, e_X10_keepsNoun_24, e_X10_keepsNoun_27, e_X10_keepsNoun_28, e_X10_keepsNoun_29, e_X10_keepsNoun_31, e_X10_keepsNoun_34, e_X10_keepsNoun_35, e_X10_keepsNoun_38, e_X10_keepsNoun_39, e_X10_keepsNoun_40, e_X10_keepsNoun_43, e_X10_keepsNoun_44, e_X10_keepsNoun_47, e_X10_keepsNoun_50, e_X10_keepsNoun_53, e_X10_keepsNoun_56, rg_33_23 hR, rg_33_25 hR, rg_33_26 hR, cl_0, nI_cl, hq', s1', s2', hn, e2, q_le, q_lt, q_s, c, l2, if_true, if_false, Option.getD_some, Option.bind_some, Option.toList_some, Option.toList_none, List.cons_append, List.nil_append]
        exact hE
theorem lnr_won (hw : wfq nw q) (hl : won nw ln) : won nw (lnr q ln (pP q)) := by
  have key : ∀ k, k ≤ pP q → ∀ v, lnf q k = some v → v < 4 ∨ (29 ≤ v ∧ v < 29 + nw) := by
    intro k
    induction k with
    | zero => intro _ v h; cases h
    | succ k ih =>
      intro hk v h
      have h' : (if 2 ≤ pK q k ∧ ¬ pN q k = 4 then some (pN q k) else lnf q k) = some v := h
      by_cases hc : 2 ≤ pK q k ∧ ¬ pN q k = 4
      · rw [if_pos hc] at h'
        cases h'
        have := (hw.2.2.1 k (by omega)).2 hc.1
        omega
      · rw [if_neg hc] at h'
        exact ih (by omega) v h'
  intro v hv
  unfold lnr at hv
  cases hf : lnf q (pP q) with
  | none => rw [hf] at hv; exact hl v hv
  | some w => rw [hf] at hv; cases hv; exact key _ (Nat.le_refl _) _ hf
theorem won_up (h : won nw ln) : won (nw + 1) ln := fun v hv => by rcases h v hv with h | h; exact Or.inl h; exact Or.inr ⟨h.1, by omega⟩
end P48

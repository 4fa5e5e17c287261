section P52
variable {e : Nat} {I I1 I2 J : Nat → Nat → Int32} {L : Nat → Nat → Int64} {R R2 : Nat → Nat → Option Nat} {a b T E j n S nw NR fm r M ST len : Nat} {x y w u to_ : Int32} {q : PhT} {tp : Nat → PhT} {td dg : Nat → Nat → Nat} {to2 : Nat → Option Nat} {it th ln one : Option Nat} {dn : Bool} {mn : Nat → Nat → Bool} {v : Nat → Int32}
theorem RG_up (h : RG R a b) (hc : ∀ c, c ≤ 33 → c ≠ 12 → R2 c = R c) : RG R2 a b := by
  intro q hq
  have h1 : (rt_RGL a b).all (fun q => decide (q.1 ≤ 33 ∧ q.1 ≠ 12)) = true := rfl
  have h2 := List.all_eq_true.mp h1 q hq
  simp only [decide_eq_true_eq] at h2
  rw [hc q.1 h2.1 h2.2]
  exact h q hq
theorem PH_up {n2 p : Nat} (h : PH n R p) (hn : n ≤ n2) (hR : R2 p = R p) : PH n2 R2 p := by
  obtain ⟨o1, r0, r1, r2, r3, a1, a2, a3, a4, l⟩ := h
  have ob : ∀ {i c}, rt_ob n i c = true → rt_ob n2 i c = true := by
    intro i c h
    unfold rt_ob at h ⊢
    rw [Bool.and_eq_true, decide_eq_true_eq] at h ⊢
    exact ⟨by omega, h.2⟩
  have ar : ∀ {i c}, rt_ar n i c = true → rt_ar n2 i c = true := by
    intro i c h
    unfold rt_ar at h ⊢
    rw [Bool.and_eq_true, decide_eq_true_eq] at h ⊢
    exact ⟨by omega, h.2⟩
  exact ⟨ob o1, by rw [hR]; exact r0, by rw [hR]; exact r1, by rw [hR]; exact r2, by rw [hR]; exact r3, ar a1, ar a2, ar a3, ar a4, l⟩
/-- statements, by the class -/
def stX (I : Nat → Nat → Int32) (fm : Nat) (s : Int32) : Nat → Nat → Int32 :=
  if fm = 7 then rt_up (rt_up I 15 2 (I 15 2 ||| s)) 15 4 (I 15 4 + 1) else if fm = 8 then rt_up (rt_up I 15 3 (I 15 3 ||| s)) 15 4 (I 15 4 + 1) else I
/-- the class, from its acts and words on -/
theorem x_tail (hR : RG R a b) (h16 : T ≤ 16) (hf : fm < 9) (hv : I 17 4 = nI (vbX fm)) (hq : PX I 18 q) (hw : wfq nw q) (h8 : nw ≤ 8) (hP : fm ≠ 2 → 0 < pP q) (hm : ∀ j, j < pP q → I 29 j = bs (mn j) T) (h6 : I 17 6 = b01 (decide (fm = 8))) (hM : I 15 1 = nI M) (hMv : ∀ i, i < M → I 16 i = v i) (h420 : M + pP q ≤ 420) (hS : I 15 8 = nI S) (hln : I 15 9 = oX ln) :
    ∃ I2, Ev mX9_carryOut 100 [.ref 0, .int (nI S), .int x] [] (71 + e, I, L, R) = some (some (.int (nI S)), (71 + e, I2, L, R)) ∧ (∀ c, c ≠ 15 → c ≠ 16 → c ≠ 17 → I2 c = I c) ∧ (∀ k, k ≠ 8 → I2 17 k = I 17 k) ∧ I2 17 8 = 0 ∧ I2 15 1 = nI (men T mn M v (pP q)).1 ∧ (∀ i, i < (men T mn M v (pP q)).1 → I2 16 i = (men T mn M v (pP q)).2 i) ∧ I2 15 8 = nI (S + 1) ∧ I2 15 9 = oX (lnr q ln (pP q)) ∧ (∀ k, k ≠ 1 → k < 8 → I2 15 k = stX I fm (bs (mn 0) T) 15 k) := by
  have hP7 := hw.1
  have e19 : (19 : Int32) = nI 19 := rfl
  have hb : vbX fm < 20 := by unfold vbX; split <;> (try split) <;> omega
  have k7 : (vbX fm = 19) = (fm = 7 ∨ fm = 8) := by rw [eq_iff_iff]; unfold vbX; split <;> (try split) <;> omega
  obtain ⟨IA, hIA⟩ : ∃ IA, IA = stX I fm (bs (mn 0) T) := ⟨_, rfl⟩
  have fA : ∀ c, c ≠ 15 → IA c = I c := by
    intro c hc
    rw [hIA]
    unfold stX
    split
    · rw [rt_up_f hc, rt_up_f hc]
    · split
      · rw [rt_up_f hc, rt_up_f hc]
      · rfl
  have fA15 : ∀ k, k < 2 ∨ 4 < k → IA 15 k = I 15 k := by
    intro k hk
    rw [hIA]
    unfold stX
    split
    · rw [rt_up_n2 (by omega), rt_up_n2 (by omega)]
    · split
      · rw [rt_up_n2 (by omega), rt_up_n2 (by omega)]
      · rfl
  have s1 : Ev mX9_carryOut 100 [.ref 0, .int (nI S), .int x] [] (71 + e, I, L, R) = Ev mX9_carryOut 136 [.ref 0, .int (nI S), .int (nI 0)] [] (71 + e, IA, L, R) := by
    rw [e_X9_carryOut_100, nI_0]
    by_cases h78 : fm = 7 ∨ fm = 8
    · have hme := x_meantBy (e := e) (I := I) (L := L) (k := 0) hR (by omega)
      rw [hm 0 (hP (by omega)), nI_0] at hme
      rw [hIA]
      unfold stX
      rcases h78 with rfl | rfl
      · have h6' : I 17 6 = 0 := h6
        have k7' : (vbX 7 = 19) = True := eq_true rfl
        simp (disch := first | exact rt_bo_0 | exact rt_bo_1 | exact ns_float | exact ns_int | exact ns_ref | assumption | omega | (simp (disch := omega) only [ob_0, rg_0_0 hR, rg_0_1 hR, rg_0_2 hR, rg_0_3 hR, rg_0_4 hR, rg_0_5 hR, rg_0_6 hR, ob_15, rg_15_0 hR, ar_16, ln_16, ob_17, rg_17_0 hR, rg_17_1 hR, rg_17_2 hR, ar_26, ln_26, ob_27, rg_27_0 hR, rg_27_1 hR, rg_27_2 hR, rg_27_3 hR, ar_28, ln_28, rg_27_4 hR, ar_29, ln_29, rg_27_5 hR, ar_30, ln_30, rt_in_nI, Option.isSome_some, Option.getD_some, Bool.or_true, Bool.true_or]; done) | fail) only [e_X9_carryOut_0, e_X9_carryOut_1, e_X9_carryOut_4, e_X9_carryOut_7, e_X9_carryOut_8, e_X9_carryOut_9, e_X9_carryOut_11, e_X9_carryOut_12, e_X9_carryOut_15, e_X9_carryOut_18, e_X9_carryOut_21, e_X9_carryOut_22, e_X9_carryOut_25, e_X9_carryOut_26, e_X9_carryOut_29, e_X9_carryOut_30, e_X9_carryOut_31, e_X9_carryOut_32, e_X9_carryOut_35, e_X9_carryOut_36, e_X9_carryOut_39, e_X9_carryOut_40, e_X9_carryOut_41, e_X9_carryOut_42, e_X9_carryOut_43, e_X9_carryOut_44, e_X9_carryOut_47, e_X9_carryOut_48, e_X9_carryOut_51, e_X9_carryOut_52, e_X9_carryOut_53, e_X9_carryOut_54, e_X9_carryOut_55, e_X9_carryOut_56, e_X9_carryOut_59, e_X9_carryOut_60, e_X9_carryOut_63, e_X9_carryOut_64, e_X9_carryOut_67, e_X9_carryOut_70, e_X9_carryOut_71, e_X9_carryOut_74, e_X9_carryOut_77, e_X9_carryOut_79, e_X9_carryOut_82, e_X9_carryOut_83, e_X9_carryOut_86, e_X9_carryOut_87, e_X9_carryOut_90, e_X9_carryOut_91, e_X9_carryOut_94, e_X9_carryOut_97, e_X9_carryOut_101, e_X9_carryOut_104, e_X9_carryOut_107, e_X9_carryOut_109, e_X9_carryOut_112, e_X9_carryOut_113, e_X9_carryOut_116, e_X9_carryOut_117, e_X9_carryOut_120, e_X9_carryOut_121, e_X9_carryOut_124, e_X9_carryOut_125, e_X9_carryOut_128, e_X9_carryOut_131, e_X9_carryOut_134, e_X9_carryOut_135, e_X9_carryOut_137, e_X9_carryOut_138, e_X9_carryOut_141, e_X9_carryOut_144, e_X9_carryOut_147, e_X9_carryOut_150, e_X9_carryOut_151, e_X9_carryOut_154, e_X9_carryOut_155, e_X9_carryOut_158, e_X9_carryOut_159, e_X9_carryOut_162, e_X9_carryOut_165, e_X9_carryOut_168, e_X9_carryOut_171, e_X9_carryOut_172, e_X9_carryOut_175, e_X9_carryOut_176, e_X9_carryOut_179, e_X9_carryOut_182, e_X9_carryOut_185, e_X9_carryOut_188, e_X9_carryOut_189, e_X9_carryOut_192, e_X9_carryOut_195, e_X9_carryOut_196, e_X4_verb_0, e_X4_verb_1, e_X4_verb_4, e_X4_denies_0, e_X4_denies_1, e_X4_denies_4, e_X0_keepStatement_0, e_X0_keepStatement_1, e_X0_keepStatement_4, e_X0_keepStatement_5, e_X0_keepStatement_6, e_X0_keepStatement_9, e_X0_keepStatement_10, e_X0_keepStatement_11, e_X0_keepStatement_14, e_X0_keepStatement_17, e_X0_keepStatement_18, e_X0_keepStatement_19, e_X0_keepStatement_22, e_X0_keepStatement_23, e_X0_keepStatement_24, e_X0_keepStatement_27, e_X0_keepStatement_28, e_X0_keepStatement_29, e_X0_keepStatement_32, e_X0_keepStatement_33, e_X0_keepStatement_34, e_X0_keepStatement_37, rg_0_3 hR, rg_0_4 hR, rg_0_5 hR, hv, e19, q_eq, k7', hme, h6', q_00, rt_up_n2, if_true, if_false, Option.getD_some, Option.bind_some, Option.toList_some, Option.toList_none, List.cons_append, List.nil_append]
      · have h6' : I 17 6 = 1 := h6
        have k7' : (vbX 8 = 19) = True := eq_true rfl
        have d87 : (8 = 7) = False := by decide
        simp (disch := first | exact rt_bo_0 | exact rt_bo_1 | exact ns_float | exact ns_int | exact ns_ref | assumption | omega | (simp (disch := omega) only [ob_0, rg_0_0 hR, rg_0_1 hR, rg_0_2 hR, rg_0_3 hR, rg_0_4 hR, rg_0_5 hR, rg_0_6 hR, ob_15, rg_15_0 hR, ar_16, ln_16, ob_17, rg_17_0 hR, rg_17_1 hR, rg_17_2 hR, ar_26, ln_26, ob_27, rg_27_0 hR, rg_27_1 hR, rg_27_2 hR, rg_27_3 hR, ar_28, ln_28, rg_27_4 hR, ar_29, ln_29, rg_27_5 hR, ar_30, ln_30, rt_in_nI, Option.isSome_some, Option.getD_some, Bool.or_true, Bool.true_or]; done) | fail) only [e_X9_carryOut_0, e_X9_carryOut_1, e_X9_carryOut_4, e_X9_carryOut_7, e_X9_carryOut_8, e_X9_carryOut_9, e_X9_carryOut_11, e_X9_carryOut_12, e_X9_carryOut_15, e_X9_carryOut_18, e_X9_carryOut_21, e_X9_carryOut_22, e_X9_carryOut_25, e_X9_carryOut_26, e_X9_carryOut_29, e_X9_carryOut_30, e_X9_carryOut_31, e_X9_carryOut_32, e_X9_carryOut_35, e_X9_carryOut_36, e_X9_carryOut_39, e_X9_carryOut_40, e_X9_carryOut_41, e_X9_carryOut_42, e_X9_carryOut_43, e_X9_carryOut_44, e_X9_carryOut_47, e_X9_carryOut_48, e_X9_carryOut_51, e_X9_carryOut_52, e_X9_carryOut_53, e_X9_carryOut_54, e_X9_carryOut_55, e_X9_carryOut_56, e_X9_carryOut_59, e_X9_carryOut_60, e_X9_carryOut_63, e_X9_carryOut_64, e_X9_carryOut_67, e_X9_carryOut_70, e_X9_carryOut_71, e_X9_carryOut_74, e_X9_carryOut_77, e_X9_carryOut_79, e_X9_carryOut_82, e_X9_carryOut_83, e_X9_carryOut_86, e_X9_carryOut_87, e_X9_carryOut_90, e_X9_carryOut_91, e_X9_carryOut_94, e_X9_carryOut_97, e_X9_carryOut_101, e_X9_carryOut_104, e_X9_carryOut_107, e_X9_carryOut_109, e_X9_carryOut_112, e_X9_carryOut_113, e_X9_carryOut_116, e_X9_carryOut_117, e_X9_carryOut_120, e_X9_carryOut_121, e_X9_carryOut_124, e_X9_carryOut_125, e_X9_carryOut_128, e_X9_carryOut_131, e_X9_carryOut_134, e_X9_carryOut_135, e_X9_carryOut_137, e_X9_carryOut_138, e_X9_carryOut_141, e_X9_carryOut_144, e_X9_carryOut_147, e_X9_carryOut_150, e_X9_carryOut_151, e_X9_carryOut_154, e_X9_carryOut_155, e_X9_carryOut_158, e_X9_carryOut_159, e_X9_carryOut_162, e_X9_carryOut_165, e_X9_carryOut_168, e_X9_carryOut_171, e_X9_carryOut_172, e_X9_carryOut_175, e_X9_carryOut_176, e_X9_carryOut_179, e_X9_carryOut_182, e_X9_carryOut_185, e_X9_carryOut_188, e_X9_carryOut_189, e_X9_carryOut_192, e_X9_carryOut_195, e_X9_carryOut_196, e_X4_verb_0, e_X4_verb_1, e_X4_verb_4, e_X4_denies_0, e_X4_denies_1, e_X4_denies_4, e_X0_keepStatement_0, e_X0_keepStatement_1, e_X0_keepStatement_4, e_X0_keepStatement_5, e_X0_keepStatement_6, e_X0_keepStatement_9, e_X0_keepStatement_10, e_X0_keepStatement_11, e_X0_keepStatement_14, e_X0_keepStatement_17, e_X0_keepStatement_18, e_X0_keepStatement_19, e_X0_keepStatement_22, e_X0_keepStatement_23, e_X0_keepStatement_24, e_X0_keepStatement_27, e_X0_keepStatement_28, e_X0_keepStatement_29, e_X0_keepStatement_32, e_X0_keepStatement_33, e_X0_keepStatement_34, e_X0_keepStatement_37, rg_0_3 hR, rg_0_4 hR, rg_0_5 hR, hv, e19, q_eq, k7', hme, h6', d87, q_10, rt_up_n2, if_true, if_false, Option.getD_some, Option.bind_some, Option.toList_some, Option.toList_none, List.cons_append, List.nil_append]
    · have hn7 : ¬ fm = 7 := fun h => h78 (Or.inl h)
      have hn8 : ¬ fm = 8 := fun h => h78 (Or.inr h)
      have hIAe : IA = I := by rw [hIA]; unfold stX; rw [if_neg hn7, if_neg hn8]
      rw [hIAe]
      simp (disch := first | exact rt_bo_0 | exact rt_bo_1 | exact ns_float | exact ns_int | exact ns_ref | assumption | omega | (simp (disch := omega) only [ob_0, rg_0_0 hR, rg_0_1 hR, rg_0_2 hR, rg_0_3 hR, rg_0_4 hR, rg_0_5 hR, rg_0_6 hR, ob_15, rg_15_0 hR, ar_16, ln_16, ob_17, rg_17_0 hR, rg_17_1 hR, rg_17_2 hR, ar_26, ln_26, ob_27, rg_27_0 hR, rg_27_1 hR, rg_27_2 hR, rg_27_3 hR, ar_28, ln_28, rg_27_4 hR, ar_29, ln_29, rg_27_5 hR, ar_30, ln_30, rt_in_nI, Option.isSome_some, Option.getD_some, Bool.or_true, Bool.true_or]; done) | fail) only [e_X9_carryOut_0, e_X9_carryOut_1, e_X9_carryOut_4, e_X9_carryOut_7, e_X9_carryOut_8, e_X9_carryOut_9, e_X9_carryOut_11, e_X9_carryOut_12, e_X9_carryOut_15, e_X9_carryOut_18, e_X9_carryOut_21, e_X9_carryOut_22, e_X9_carryOut_25, e_X9_carryOut_26, e_X9_carryOut_29, e_X9_carryOut_30, e_X9_carryOut_31, e_X9_carryOut_32, e_X9_carryOut_35, e_X9_carryOut_36, e_X9_carryOut_39, e_X9_carryOut_40, e_X9_carryOut_41, e_X9_carryOut_42, e_X9_carryOut_43, e_X9_carryOut_44, e_X9_carryOut_47, e_X9_carryOut_48, e_X9_carryOut_51, e_X9_carryOut_52, e_X9_carryOut_53, e_X9_carryOut_54, e_X9_carryOut_55, e_X9_carryOut_56, e_X9_carryOut_59, e_X9_carryOut_60, e_X9_carryOut_63, e_X9_carryOut_64, e_X9_carryOut_67, e_X9_carryOut_70, e_X9_carryOut_71, e_X9_carryOut_74, e_X9_carryOut_77, e_X9_carryOut_79, e_X9_carryOut_82, e_X9_carryOut_83, e_X9_carryOut_86, e_X9_carryOut_87, e_X9_carryOut_90, e_X9_carryOut_91, e_X9_carryOut_94, e_X9_carryOut_97, e_X9_carryOut_101, e_X9_carryOut_104, e_X9_carryOut_107, e_X9_carryOut_109, e_X9_carryOut_112, e_X9_carryOut_113, e_X9_carryOut_116, e_X9_carryOut_117, e_X9_carryOut_120, e_X9_carryOut_121, e_X9_carryOut_124, e_X9_carryOut_125, e_X9_carryOut_128, e_X9_carryOut_131, e_X9_carryOut_134, e_X9_carryOut_135, e_X9_carryOut_137, e_X9_carryOut_138, e_X9_carryOut_141, e_X9_carryOut_144, e_X9_carryOut_147, e_X9_carryOut_150, e_X9_carryOut_151, e_X9_carryOut_154, e_X9_carryOut_155, e_X9_carryOut_158, e_X9_carryOut_159, e_X9_carryOut_162, e_X9_carryOut_165, e_X9_carryOut_168, e_X9_carryOut_171, e_X9_carryOut_172, e_X9_carryOut_175, e_X9_carryOut_176, e_X9_carryOut_179, e_X9_carryOut_182, e_X9_carryOut_185, e_X9_carryOut_188, e_X9_carryOut_189, e_X9_carryOut_192, e_X9_carryOut_195, e_X9_carryOut_196, e_X4_verb_0, e_X4_verb_1, e_X4_verb_4, rg_0_4 hR, hv, e19, q_eq, k7, h78, if_false, Option.getD_some, Option.bind_some, Option.toList_some, Option.toList_none, List.cons_append, List.nil_append]
  obtain ⟨IB, hB1, hB2, hB3, hB4, hB5⟩ := x_men_l (e := e) (L := L) (x := nI S) (J := IA) (v := v) hR h16 hP7 h420 (by rw [fA 18 (by omega)]; exact hq.1) (mn := mn) (fun j hj => by rw [fA 29 (by omega)]; exact hm j hj) (pP q) 0 IA (by omega) (fun _ _ _ => rfl) (fun _ _ => rfl) (by rw [fA15 1 (by omega)]; exact hM) (fun i hi => by rw [fA 16 (by omega)]; exact hMv i hi)
  have hqB : PX IB 18 q := PX_fr hq (fun c h1 h2 => by rw [hB2 c (by omega) (by omega), fA c (by omega)])
  have hlnB := x_lnoun (e := e) (L := L) (PH18 hR) hqB hw h8
  have B8 : IB 15 8 = nI S := by rw [hB3 8 (by omega), fA15 8 (by omega)]; exact hS
  have B9 : IB 15 9 = oX ln := by rw [hB3 9 (by omega), fA15 9 (by omega)]; exact hln
  have hfin : ∀ (z : Nat → Nat → Int32), (z = if oX (lnf q (pP q)) = -1 then rt_up IB 15 8 (nI (S + 1)) else rt_up (rt_up IB 15 8 (nI (S + 1))) 15 9 (oX (lnf q (pP q)))) → Ev mX9_carryOut 171 [.ref 0, .int (nI S), .int (nI (pP q))] [] (71 + e, IB, L, R) = some (some (.int (nI S)), (71 + e, rt_up z 17 8 0, L, R)) := by
    intro z hz
    rw [e_X9_carryOut_171]
    by_cases hn : oX (lnf q (pP q)) = -1
    · rw [if_pos hn] at hz
      simp (disch := first | exact rt_bo_0 | exact rt_bo_1 | exact ns_float | exact ns_int | exact ns_ref | assumption | omega | (simp (disch := omega) only [ob_0, rg_0_0 hR, rg_0_1 hR, rg_0_2 hR, rg_0_3 hR, rg_0_4 hR, rg_0_5 hR, rg_0_6 hR, ob_15, rg_15_0 hR, ar_16, ln_16, ob_17, rg_17_0 hR, rg_17_1 hR, rg_17_2 hR, ar_26, ln_26, ob_18, rg_18_0 hR, ar_19, ln_19, rg_18_1 hR, ar_20, ln_20, rg_18_2 hR, ar_21, ln_21, rg_18_3 hR, ar_22, ln_22, rt_in_nI, Option.isSome_some, Option.getD_some, Bool.or_true, Bool.true_or]; done) | fail) only [e_X9_carryOut_0, e_X9_carryOut_1, e_X9_carryOut_4, e_X9_carryOut_7, e_X9_carryOut_8, e_X9_carryOut_9, e_X9_carryOut_11, e_X9_carryOut_12, e_X9_carryOut_15, e_X9_carryOut_18, e_X9_carryOut_21, e_X9_carryOut_22, e_X9_carryOut_25, e_X9_carryOut_26, e_X9_carryOut_29, e_X9_carryOut_30, e_X9_carryOut_31, e_X9_carryOut_32, e_X9_carryOut_35, e_X9_carryOut_36, e_X9_carryOut_39, e_X9_carryOut_40, e_X9_carryOut_41, e_X9_carryOut_42, e_X9_carryOut_43, e_X9_carryOut_44, e_X9_carryOut_47, e_X9_carryOut_48, e_X9_carryOut_51, e_X9_carryOut_52, e_X9_carryOut_53, e_X9_carryOut_54, e_X9_carryOut_55, e_X9_carryOut_56, e_X9_carryOut_59, e_X9_carryOut_60, e_X9_carryOut_63, e_X9_carryOut_64, e_X9_carryOut_67, e_X9_carryOut_70, e_X9_carryOut_71, e_X9_carryOut_74, e_X9_carryOut_77, e_X9_carryOut_79, e_X9_carryOut_82, e_X9_carryOut_83, e_X9_carryOut_86, e_X9_carryOut_87, e_X9_carryOut_90, e_X9_carryOut_91, e_X9_carryOut_94, e_X9_carryOut_97, e_X9_carryOut_100, e_X9_carryOut_101, e_X9_carryOut_104, e_X9_carryOut_107, e_X9_carryOut_109, e_X9_carryOut_112, e_X9_carryOut_113, e_X9_carryOut_116, e_X9_carryOut_117, e_X9_carryOut_120, e_X9_carryOut_121, e_X9_carryOut_124, e_X9_carryOut_125, e_X9_carryOut_128, e_X9_carryOut_131, e_X9_carryOut_134, e_X9_carryOut_135, e_X9_carryOut_136, e_X9_carryOut_137, e_X9_carryOut_138, e_X9_carryOut_141, e_X9_carryOut_144, e_X9_carryOut_147, e_X9_carryOut_150, e_X9_carryOut_151, e_X9_carryOut_154, e_X9_carryOut_155, e_X9_carryOut_158, e_X9_carryOut_159, e_X9_carryOut_162, e_X9_carryOut_165, e_X9_carryOut_168, e_X9_carryOut_172, e_X9_carryOut_175, e_X9_carryOut_176, e_X9_carryOut_179, e_X9_carryOut_182, e_X9_carryOut_185, e_X9_carryOut_188, e_X9_carryOut_189, e_X9_carryOut_192, e_X9_carryOut_195, e_X9_carryOut_196, e_X0_keepDone_0, e_X0_keepDone_1, e_X0_keepDone_2, e_X0_keepDone_5, e_X0_keepDone_6, e_X0_keepDone_7, e_X0_keepDone_10, e_X0_keepDone_11, e_X0_keepDone_12, e_X0_keepDone_15, e_X0_keepDone_16, e_X0_keepDone_17, e_X0_keepDone_20, e_X4_putAway_0, e_X4_putAway_1, e_X4_putAway_2, e_X4_putAway_5, rg_0_3 hR, rg_0_4 hR, rg_17_0 hR, hlnB, hn, B8, q_s, hz, if_true, Option.getD_some, Option.bind_some, Option.toList_some, Option.toList_none, List.cons_append, List.nil_append]
    · rw [if_neg hn] at hz
      have hn' : (oX (lnf q (pP q)) = -1) = False := eq_false hn
      simp (disch := first | exact rt_bo_0 | exact rt_bo_1 | exact ns_float | exact ns_int | exact ns_ref | assumption | omega | (simp (disch := omega) only [ob_0, rg_0_0 hR, rg_0_1 hR, rg_0_2 hR, rg_0_3 hR, rg_0_4 hR, rg_0_5 hR, rg_0_6 hR, ob_15, rg_15_0 hR, ar_16, ln_16, ob_17, rg_17_0 hR, rg_17_1 hR, rg_17_2 hR, ar_26, ln_26, ob_18, rg_18_0 hR, ar_19, ln_19, rg_18_1 hR, ar_20, ln_20, rg_18_2 hR, ar_21, ln_21, rg_18_3 hR, ar_22, ln_22, rt_in_nI, Option.isSome_some, Option.getD_some, Bool.or_true, Bool.true_or]; done) | fail) only [e_X9_carryOut_0, e_X9_carryOut_1, e_X9_carryOut_4, e_X9_carryOut_7, e_X9_carryOut_8, e_X9_carryOut_9, e_X9_carryOut_11, e_X9_carryOut_12, e_X9_carryOut_15, e_X9_carryOut_18, e_X9_carryOut_21, e_X9_carryOut_22, e_X9_carryOut_25, e_X9_carryOut_26, e_X9_carryOut_29, e_X9_carryOut_30, e_X9_carryOut_31, e_X9_carryOut_32, e_X9_carryOut_35, e_X9_carryOut_36, e_X9_carryOut_39, e_X9_carryOut_40, e_X9_carryOut_41, e_X9_carryOut_42, e_X9_carryOut_43, e_X9_carryOut_44, e_X9_carryOut_47, e_X9_carryOut_48, e_X9_carryOut_51, e_X9_carryOut_52, e_X9_carryOut_53, e_X9_carryOut_54, e_X9_carryOut_55, e_X9_carryOut_56, e_X9_carryOut_59, e_X9_carryOut_60, e_X9_carryOut_63, e_X9_carryOut_64, e_X9_carryOut_67, e_X9_carryOut_70, e_X9_carryOut_71, e_X9_carryOut_74, e_X9_carryOut_77, e_X9_carryOut_79, e_X9_carryOut_82, e_X9_carryOut_83, e_X9_carryOut_86, e_X9_carryOut_87, e_X9_carryOut_90, e_X9_carryOut_91, e_X9_carryOut_94, e_X9_carryOut_97, e_X9_carryOut_100, e_X9_carryOut_101, e_X9_carryOut_104, e_X9_carryOut_107, e_X9_carryOut_109, e_X9_carryOut_112, e_X9_carryOut_113, e_X9_carryOut_116, e_X9_carryOut_117, e_X9_carryOut_120, e_X9_carryOut_121, e_X9_carryOut_124, e_X9_carryOut_125, e_X9_carryOut_128, e_X9_carryOut_131, e_X9_carryOut_134, e_X9_carryOut_135, e_X9_carryOut_136, e_X9_carryOut_137, e_X9_carryOut_138, e_X9_carryOut_141, e_X9_carryOut_144, e_X9_carryOut_147, e_X9_carryOut_150, e_X9_carryOut_151, e_X9_carryOut_154, e_X9_carryOut_155, e_X9_carryOut_158, e_X9_carryOut_159, e_X9_carryOut_162, e_X9_carryOut_165, e_X9_carryOut_168, e_X9_carryOut_172, e_X9_carryOut_175, e_X9_carryOut_176, e_X9_carryOut_179, e_X9_carryOut_182, e_X9_carryOut_185, e_X9_carryOut_188, e_X9_carryOut_189, e_X9_carryOut_192, e_X9_carryOut_195, e_X9_carryOut_196, e_X0_keepDone_0, e_X0_keepDone_1, e_X0_keepDone_2, e_X0_keepDone_5, e_X0_keepDone_6, e_X0_keepDone_7, e_X0_keepDone_10, e_X0_keepDone_11, e_X0_keepDone_12, e_X0_keepDone_15, e_X0_keepDone_16, e_X0_keepDone_17, e_X0_keepDone_20, e_X4_putAway_0, e_X4_putAway_1, e_X4_putAway_2, e_X4_putAway_5, rg_0_3 hR, rg_0_4 hR, rg_17_0 hR, hlnB, hn', B8, q_s, hz, if_false, Option.getD_some, Option.bind_some, Option.toList_some, Option.toList_none, List.cons_append, List.nil_append]
  obtain ⟨IZ, hZ⟩ : ∃ IZ, IZ = (if oX (lnf q (pP q)) = -1 then rt_up IB 15 8 (nI (S + 1)) else rt_up (rt_up IB 15 8 (nI (S + 1))) 15 9 (oX (lnf q (pP q)))) := ⟨_, rfl⟩
  have hE := hfin IZ hZ
  have fZ : ∀ c, c ≠ 15 → IZ c = IB c := by
    intro c hc
    rw [hZ]
    split
    · rw [rt_up_f hc]
    · rw [rt_up_f hc, rt_up_f hc]
  have fZ15 : ∀ k, k < 8 → IZ 15 k = IB 15 k := by
    intro k hk
    rw [hZ]
    split
    · rw [rt_up_n2 (by omega)]
    · rw [rt_up_n2 (by omega), rt_up_n2 (by omega)]
  refine ⟨rt_up IZ 17 8 0, by rw [s1, hB1, hE], fun c h1 h2 h3 => by rw [rt_up_f h3, fZ c h1, hB2 c h1 h2, fA c h1], fun k hk => by rw [rt_up_n2 hk, fZ 17 (by omega), hB2 17 (by omega) (by omega), fA 17 (by omega)], rt_up_eq, by rw [rt_up_n1 (by omega), fZ15 1 (by omega)]; exact hB4, fun i hi => by rw [rt_up_n1 (by omega), fZ 16 (by omega)]; exact hB5 i hi, ?_, ?_, fun k h1 h2 => by rw [rt_up_n1 (by omega), fZ15 k h2, hB3 k h1, hIA]⟩
  · rw [rt_up_n1 (by omega), hZ]
    split
    · rw [rt_up_eq]
    · rw [rt_up_n2 (by omega), rt_up_eq]
  · rw [rt_up_n1 (by omega), hZ]
    unfold lnr
    cases hl : lnf q (pP q) with
    | none =>
      rw [if_pos (show oX none = -1 from rfl), rt_up_n2 (by omega)]
      exact B9
    | some z =>
      have hzlt : z < 100 := by
        have := lnr_won hw (ln := some 0) (fun v hv => by cases hv; exact Or.inl (by omega)) z (by unfold lnr; rw [hl])
        omega
      rw [if_neg (show ¬ oX (some z) = -1 by show ¬ nI z = -1; rw [q_e1 (by omega)]; exact id), rt_up_eq]
end P52

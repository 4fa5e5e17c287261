section P28
variable {e : Nat} {I I2 : Nat → Nat → Int32} {L : Nat → Nat → Int64} {R : Nat → Nat → Option Nat} {a b T j n k p i nw s r NR fm : Nat} {x : Int32} {q : PhT} {tp : Nat → PhT} {td dg : Nat → Nat → Nat} {to_ : Nat → Option Nat} {it th one ln : Option Nat} {dn : Bool} {al : Nat → Nat → Bool}
theorem x_cbd (hR : RG R a b) (hT : I 1 5 = nI T) (h16 : T ≤ 16) (hO : RoomOK T (I 2) (I 5)) (hy : YX I a T q NR dg nw ln fm dn) (hF : YF q NR dg fm dn) (hr : r < NR) {mn : Nat → Nat → Bool} (hm : ∀ j, j < pP q → I 29 j = bs (mn j) T) (h8 : I 27 8 = -1) (h9 : I 27 9 = -1) :
    ∃ I2, Ev mX5_canBeDone 0 [.ref 27, .ref 17, .int (I a r)] [] (71 + e, I, L, R) = some (some (.int (b01 (cbd T (I 2) (I 5) q fm dn mn (dg r)))), (71 + e, I2, L, R)) ∧ (∀ c, c ≠ 27 → I2 c = I c) ∧ I2 27 6 = I 27 6 ∧ I2 27 7 = I 27 7 ∧ I2 27 8 = mvv T (I 2) fm mn ∧ I2 27 9 = glv T (I 2) (I 5) q fm dn mn (dg r) := by
  obtain ⟨f1, f2, f3, f4, f5, f6, f7⟩ := hF
  have hv := hy.2.2.2.2.2.2.2.2.1
  have hdn := hy.2.2.2.2.2.2.2.2.2.1
  have hh := hy.2.2.2.2.2.2.2.2.2.2.2
  have n11 : ((11 : Int32) = -1) = False := by decide
  have n16 : ((16 : Int32) = -1) = False := by decide
  have n17 : ((17 : Int32) = -1) = False := by decide
  by_cases h0 : fm = 0
  · subst h0
    have hv' : I 17 4 = 11 := hv
    have hme := x_meantBy (e := e) (I := I) (L := L) (k := 0) hR (by omega)
    rw [hm 0 (f2 (by omega)), nI_0] at hme
    have hlt := x_ltm (e := e) (L := L) hR hT h16 (V := mn 0)
    have hmv : mvv T (I 2) 0 mn = ff (fun x => mn 0 x = true ∧ ¬ I 2 x = 2) 0 T := by unfold mvv mvx; simp
    by_cases hd : dn = true
    · subst hd
      have hg : glv T (I 2) (I 5) q 0 true mn (dg r) = 16 := by unfold glv; simp
      refine ⟨rt_up (rt_up I 27 8 (mvv T (I 2) 0 mn)) 27 9 16, ?_, fun c hc => by rw [rt_up_f hc, rt_up_f hc], by rw [rt_up_n2 (by omega), rt_up_n2 (by omega)], by rw [rt_up_n2 (by omega), rt_up_n2 (by omega)], by rw [rt_up_n2 (by omega), rt_up_eq], by rw [rt_up_eq, hg]⟩
      have hd1 : rt_up I 27 8 (mvv T (I 2) 0 mn) 17 7 = b01 true := by rw [rt_up_n1 (by omega)]; exact hdn
      rw [hmv] at hd1
      have hb1 : b01 true = 1 := rfl
      rw [hb1] at hd1
      have hcb : cbd T (I 2) (I 5) q 0 true mn (dg r) = !decide (mvv T (I 2) 0 mn = -1) := by unfold cbd; rw [hg]; simp
      rw [hcb, hmv]
      simp (disch := first | exact rt_bo_0 | exact rt_bo_1 | exact ns_float | exact ns_int | exact ns_ref | assumption | omega | (simp (disch := omega) only [ob_27, rg_27_0 hR, rg_27_1 hR, rg_27_2 hR, rg_27_3 hR, ar_28, ln_28, rg_27_4 hR, ar_29, ln_29, rg_27_5 hR, ar_30, ln_30, ob_1, rg_1_0 hR, ar_2, ln_2, rg_1_1 hR, ar_3, ln_3, rg_1_2 hR, ar_4, ln_4, rg_1_3 hR, ar_5, ln_5, rg_1_4 hR, ar_6, ln_6, ob_17, rg_17_0 hR, rg_17_1 hR, rg_17_2 hR, ar_26, ln_26, rt_up_eq, rt_up_n2, rt_in_nI, Option.isSome_some, Option.getD_some, Bool.or_true, Bool.true_or]; done) | fail) only [e_X5_canBeDone_0, e_X5_canBeDone_1, e_X5_canBeDone_4, e_X5_canBeDone_32, e_X5_canBeDone_33, e_X5_canBeDone_36, e_X5_canBeDone_39, e_X5_canBeDone_40, e_X5_canBeDone_43, e_X5_canBeDone_44, e_X5_canBeDone_47, e_X5_canBeDone_48, e_X5_canBeDone_49, e_X5_canBeDone_50, e_X5_canBeDone_51, e_X5_canBeDone_52, e_X5_canBeDone_53, e_X5_canBeDone_56, e_X5_canBeDone_59, e_X5_canBeDone_62, e_X5_canBeDone_63, e_X5_canBeDone_65, e_X5_canBeDone_68, e_X5_canBeDone_69, e_X5_canBeDone_72, e_X5_canBeDone_73, e_X5_canBeDone_76, e_X5_canBeDone_77, e_X5_canBeDone_80, e_X5_canBeDone_81, e_X5_canBeDone_82, e_X5_canBeDone_83, e_X5_canBeDone_84, e_X5_canBeDone_85, e_X5_canBeDone_86, e_X5_canBeDone_89, e_X5_canBeDone_92, e_X5_canBeDone_95, e_X5_canBeDone_96, e_X5_canBeDone_97, e_X5_canBeDone_100, e_X5_canBeDone_103, e_X5_canBeDone_105, e_X5_canBeDone_108, e_X5_canBeDone_109, e_X5_canBeDone_110, e_X5_canBeDone_111, e_X5_canBeDone_114, e_X5_canBeDone_117, e_X5_canBeDone_118, e_X5_canBeDone_121, e_X5_canBeDone_122, e_X5_canBeDone_125, e_X5_canBeDone_126, e_X5_canBeDone_129, e_X5_canBeDone_130, e_X5_canBeDone_133, e_X5_canBeDone_134, e_X5_canBeDone_137, e_X5_canBeDone_138, e_X5_canBeDone_139, e_X5_canBeDone_140, e_X4_verb_0, e_X4_verb_1, e_X4_verb_4, e_X4_goesDown_0, e_X4_goesDown_1, e_X4_goesDown_4, hv', hme, hlt, hd1, rt_up_eq, rt_up_n2, q_10, n16, if_true, if_false, Option.getD_some, Option.bind_some, Option.toList_some, Option.toList_none, List.cons_append, List.nil_append]
      by_cases hz : ff (fun x => mn 0 x = true ∧ ¬ I 2 x = 2) 0 T = -1 <;> simp [hz, b01]
    · have hd' : dn = false := by simpa using hd
      subst hd'
      have hg : glv T (I 2) (I 5) q 0 false mn (dg r) = glx T (I 2) (I 5) (mn (plN (pO q) (dg r) + 1)) (srt (pR q (plN (pO q) (dg r)))) (mvx T (I 2) mn) := by unfold glv; simp
      have hmx : mvx T (I 2) mn = mvv T (I 2) 0 mn := by unfold mvv; simp
      have hF1 : ∀ c, c < 27 ∨ 32 < c → rt_up I 27 8 (mvv T (I 2) 0 mn) c = I c := fun c hc => rt_up_f (by omega)
      have hgo := x_goal (e := e) (I := rt_up I 27 8 (mvv T (I 2) 0 mn)) (L := L) hR (by rw [hF1 1 (by omega)]; exact hT) h16 (by rw [hF1 2 (by omega), hF1 5 (by omega)]; exact hO) (YX_fr hy hF1) hr (f5 (Or.inl ⟨rfl, rfl⟩) r hr) (mn := mn) (fun j hj => by rw [rt_up_f (by omega)]; exact hm j hj)
      have ha : a < 27 := by have := hy.2.2.2.2.2.2.2.2.2.2.1; omega
      rw [hF1 a (by omega), hF1 2 (by omega), hF1 5 (by omega), rt_up_eq, ← hmx, ← hg, hmx] at hgo
      refine ⟨rt_up (rt_up I 27 8 (mvv T (I 2) 0 mn)) 27 9 (glv T (I 2) (I 5) q 0 false mn (dg r)), ?_, fun c hc => by rw [rt_up_f hc, rt_up_f hc], by rw [rt_up_n2 (by omega), rt_up_n2 (by omega)], by rw [rt_up_n2 (by omega), rt_up_n2 (by omega)], by rw [rt_up_n2 (by omega), rt_up_eq], by rw [rt_up_eq]⟩
      have hd1 : rt_up I 27 8 (mvv T (I 2) 0 mn) 17 7 = 0 := by rw [rt_up_n1 (by omega)]; exact hdn
      have hcb : cbd T (I 2) (I 5) q 0 false mn (dg r) = (!decide (mvv T (I 2) 0 mn = -1) && !decide (glv T (I 2) (I 5) q 0 false mn (dg r) = -1)) := by unfold cbd; simp
      rw [hcb]
      rw [← hmv] at hlt
      simp (disch := first | exact rt_bo_0 | exact rt_bo_1 | exact ns_float | exact ns_int | exact ns_ref | assumption | omega | (simp (disch := omega) only [ob_27, rg_27_0 hR, rg_27_1 hR, rg_27_2 hR, rg_27_3 hR, ar_28, ln_28, rg_27_4 hR, ar_29, ln_29, rg_27_5 hR, ar_30, ln_30, ob_1, rg_1_0 hR, ar_2, ln_2, rg_1_1 hR, ar_3, ln_3, rg_1_2 hR, ar_4, ln_4, rg_1_3 hR, ar_5, ln_5, rg_1_4 hR, ar_6, ln_6, ob_17, rg_17_0 hR, rg_17_1 hR, rg_17_2 hR, ar_26, ln_26, rt_up_eq, rt_up_n2, rt_in_nI, Option.isSome_some, Option.getD_some, Bool.or_true, Bool.true_or]; done) | fail) only [e_X5_canBeDone_0, e_X5_canBeDone_1, e_X5_canBeDone_4, e_X5_canBeDone_32, e_X5_canBeDone_33, e_X5_canBeDone_36, e_X5_canBeDone_39, e_X5_canBeDone_40, e_X5_canBeDone_43, e_X5_canBeDone_44, e_X5_canBeDone_47, e_X5_canBeDone_48, e_X5_canBeDone_49, e_X5_canBeDone_50, e_X5_canBeDone_51, e_X5_canBeDone_52, e_X5_canBeDone_53, e_X5_canBeDone_56, e_X5_canBeDone_59, e_X5_canBeDone_62, e_X5_canBeDone_63, e_X5_canBeDone_65, e_X5_canBeDone_68, e_X5_canBeDone_69, e_X5_canBeDone_72, e_X5_canBeDone_73, e_X5_canBeDone_76, e_X5_canBeDone_77, e_X5_canBeDone_80, e_X5_canBeDone_81, e_X5_canBeDone_82, e_X5_canBeDone_83, e_X5_canBeDone_84, e_X5_canBeDone_85, e_X5_canBeDone_86, e_X5_canBeDone_89, e_X5_canBeDone_92, e_X5_canBeDone_95, e_X5_canBeDone_96, e_X5_canBeDone_97, e_X5_canBeDone_100, e_X5_canBeDone_103, e_X5_canBeDone_105, e_X5_canBeDone_108, e_X5_canBeDone_109, e_X5_canBeDone_110, e_X5_canBeDone_111, e_X5_canBeDone_114, e_X5_canBeDone_117, e_X5_canBeDone_118, e_X5_canBeDone_121, e_X5_canBeDone_122, e_X5_canBeDone_125, e_X5_canBeDone_126, e_X5_canBeDone_129, e_X5_canBeDone_130, e_X5_canBeDone_133, e_X5_canBeDone_134, e_X5_canBeDone_137, e_X5_canBeDone_138, e_X5_canBeDone_139, e_X5_canBeDone_140, e_X4_verb_0, e_X4_verb_1, e_X4_verb_4, e_X4_goesDown_0, e_X4_goesDown_1, e_X4_goesDown_4, hv', hme, hlt, hd1, hgo, rt_up_eq, rt_up_n2, q_00, if_true, if_false, Option.getD_some, Option.bind_some, Option.toList_some, Option.toList_none, List.cons_append, List.nil_append]
      by_cases hz : mvv T (I 2) 0 mn = -1 <;> by_cases hz2 : glv T (I 2) (I 5) q 0 false mn (dg r) = -1 <;> simp [hz, hz2, b01]
  · by_cases h1 : fm = 1
    · subst h1
      have hv' : I 17 4 = 12 := hv
      have hme := x_meantBy (e := e) (I := I) (L := L) (k := 0) hR (by omega)
      rw [hm 0 (f2 (by omega)), nI_0] at hme
      have hlt := x_ltm (e := e) (L := L) hR hT h16 (V := mn 0)
      have hmv : mvv T (I 2) 1 mn = ff (fun x => mn 0 x = true ∧ ¬ I 2 x = 2) 0 T := by unfold mvv mvx; simp
      have hg : glv T (I 2) (I 5) q 1 dn mn (dg r) = 17 := by unfold glv; simp
      refine ⟨rt_up (rt_up I 27 8 (mvv T (I 2) 1 mn)) 27 9 17, ?_, fun c hc => by rw [rt_up_f hc, rt_up_f hc], by rw [rt_up_n2 (by omega), rt_up_n2 (by omega)], by rw [rt_up_n2 (by omega), rt_up_n2 (by omega)], by rw [rt_up_n2 (by omega), rt_up_eq], by rw [rt_up_eq, hg]⟩
      have hcb : cbd T (I 2) (I 5) q 1 dn mn (dg r) = !decide (mvv T (I 2) 1 mn = -1) := by unfold cbd; rw [hg]; simp
      have d1 : ((12 : Int32) = 11) = False := by decide
      rw [hcb, hmv]
      simp (disch := first | exact rt_bo_0 | exact rt_bo_1 | exact ns_float | exact ns_int | exact ns_ref | assumption | omega | (simp (disch := omega) only [ob_27, rg_27_0 hR, rg_27_1 hR, rg_27_2 hR, rg_27_3 hR, ar_28, ln_28, rg_27_4 hR, ar_29, ln_29, rg_27_5 hR, ar_30, ln_30, ob_1, rg_1_0 hR, ar_2, ln_2, rg_1_1 hR, ar_3, ln_3, rg_1_2 hR, ar_4, ln_4, rg_1_3 hR, ar_5, ln_5, rg_1_4 hR, ar_6, ln_6, ob_17, rg_17_0 hR, rg_17_1 hR, rg_17_2 hR, ar_26, ln_26, rt_up_eq, rt_up_n2, rt_in_nI, Option.isSome_some, Option.getD_some, Bool.or_true, Bool.true_or]; done) | fail) only [e_X5_canBeDone_0, e_X5_canBeDone_1, e_X5_canBeDone_4, e_X5_canBeDone_32, e_X5_canBeDone_33, e_X5_canBeDone_36, e_X5_canBeDone_39, e_X5_canBeDone_40, e_X5_canBeDone_43, e_X5_canBeDone_44, e_X5_canBeDone_47, e_X5_canBeDone_48, e_X5_canBeDone_49, e_X5_canBeDone_50, e_X5_canBeDone_51, e_X5_canBeDone_52, e_X5_canBeDone_53, e_X5_canBeDone_56, e_X5_canBeDone_59, e_X5_canBeDone_62, e_X5_canBeDone_63, e_X5_canBeDone_65, e_X5_canBeDone_68, e_X5_canBeDone_69, e_X5_canBeDone_72, e_X5_canBeDone_73, e_X5_canBeDone_76, e_X5_canBeDone_77, e_X5_canBeDone_80, e_X5_canBeDone_81, e_X5_canBeDone_82, e_X5_canBeDone_83, e_X5_canBeDone_84, e_X5_canBeDone_85, e_X5_canBeDone_86, e_X5_canBeDone_89, e_X5_canBeDone_92, e_X5_canBeDone_95, e_X5_canBeDone_96, e_X5_canBeDone_97, e_X5_canBeDone_100, e_X5_canBeDone_103, e_X5_canBeDone_105, e_X5_canBeDone_108, e_X5_canBeDone_109, e_X5_canBeDone_110, e_X5_canBeDone_111, e_X5_canBeDone_114, e_X5_canBeDone_117, e_X5_canBeDone_118, e_X5_canBeDone_121, e_X5_canBeDone_122, e_X5_canBeDone_125, e_X5_canBeDone_126, e_X5_canBeDone_129, e_X5_canBeDone_130, e_X5_canBeDone_133, e_X5_canBeDone_134, e_X5_canBeDone_137, e_X5_canBeDone_138, e_X5_canBeDone_139, e_X5_canBeDone_140, e_X4_verb_0, e_X4_verb_1, e_X4_verb_4, hv', d1, hme, hlt, rt_up_eq, rt_up_n2, if_true, if_false, Option.getD_some, Option.bind_some, Option.toList_some, Option.toList_none, List.cons_append, List.nil_append]
      by_cases hz : ff (fun x => mn 0 x = true ∧ ¬ I 2 x = 2) 0 T = -1 <;> simp [hz, b01]
    · have hmv : mvv T (I 2) fm mn = -1 := by unfold mvv; simp [h0, h1]
      have hg : glv T (I 2) (I 5) q fm dn mn (dg r) = -1 := by unfold glv; simp [h0, h1]
      refine ⟨I, ?_, fun _ _ => rfl, rfl, rfl, by rw [h8, hmv], by rw [h9, hg]⟩
      by_cases h2 : fm = 2
      · subst h2
        have hv' : I 17 4 = 13 := hv
        have d1 : ((13 : Int32) = 11) = False := by decide
        have d2 : ((13 : Int32) = 12) = False := by decide
        have hcb : cbd T (I 2) (I 5) q 2 dn mn (dg r) = !decide (ff (fun i => I 5 i = 17) 0 T = -1) := by unfold cbd; simp
        rw [hcb]
        simp (disch := first | exact rt_bo_0 | exact rt_bo_1 | exact ns_float | exact ns_int | exact ns_ref | assumption | omega | (simp (disch := omega) only [ob_27, rg_27_0 hR, rg_27_1 hR, rg_27_2 hR, rg_27_3 hR, ar_28, ln_28, rg_27_4 hR, ar_29, ln_29, rg_27_5 hR, ar_30, ln_30, ob_1, rg_1_0 hR, ar_2, ln_2, rg_1_1 hR, ar_3, ln_3, rg_1_2 hR, ar_4, ln_4, rg_1_3 hR, ar_5, ln_5, rg_1_4 hR, ar_6, ln_6, ob_17, rg_17_0 hR, rg_17_1 hR, rg_17_2 hR, ar_26, ln_26, rt_in_nI, Option.isSome_some, Option.getD_some, Bool.or_true, Bool.true_or]; done) | fail) only [e_X5_canBeDone_0, e_X5_canBeDone_1, e_X5_canBeDone_4, e_X5_canBeDone_32, e_X5_canBeDone_33, e_X5_canBeDone_36, e_X5_canBeDone_39, e_X5_canBeDone_40, e_X5_canBeDone_43, e_X5_canBeDone_44, e_X5_canBeDone_47, e_X5_canBeDone_48, e_X5_canBeDone_49, e_X5_canBeDone_50, e_X5_canBeDone_51, e_X5_canBeDone_52, e_X5_canBeDone_53, e_X5_canBeDone_56, e_X5_canBeDone_59, e_X5_canBeDone_62, e_X5_canBeDone_63, e_X5_canBeDone_65, e_X5_canBeDone_68, e_X5_canBeDone_69, e_X5_canBeDone_72, e_X5_canBeDone_73, e_X5_canBeDone_76, e_X5_canBeDone_77, e_X5_canBeDone_80, e_X5_canBeDone_81, e_X5_canBeDone_82, e_X5_canBeDone_83, e_X5_canBeDone_84, e_X5_canBeDone_85, e_X5_canBeDone_86, e_X5_canBeDone_89, e_X5_canBeDone_92, e_X5_canBeDone_95, e_X5_canBeDone_96, e_X5_canBeDone_97, e_X5_canBeDone_100, e_X5_canBeDone_103, e_X5_canBeDone_105, e_X5_canBeDone_108, e_X5_canBeDone_109, e_X5_canBeDone_110, e_X5_canBeDone_111, e_X5_canBeDone_114, e_X5_canBeDone_117, e_X5_canBeDone_118, e_X5_canBeDone_121, e_X5_canBeDone_122, e_X5_canBeDone_125, e_X5_canBeDone_126, e_X5_canBeDone_129, e_X5_canBeDone_130, e_X5_canBeDone_133, e_X5_canBeDone_134, e_X5_canBeDone_137, e_X5_canBeDone_138, e_X5_canBeDone_139, e_X5_canBeDone_140, e_X4_verb_0, e_X4_verb_1, e_X4_verb_4, e_X3_held_0, e_X3_held_1, e_X3_held_4, hv', d1, d2, rg_27_0 hR, hh, if_true, if_false, Option.getD_some, Option.bind_some, Option.toList_some, Option.toList_none, List.cons_append, List.nil_append]
        by_cases hz : ff (fun i => I 5 i = 17) 0 T = -1 <;> simp [hz, b01]
      · have hcb : cbd T (I 2) (I 5) q fm dn mn (dg r) = true := by unfold cbd; simp [h0, h1, h2]
        have hn : 11 ≤ vbX fm ∧ vbX fm < 20 ∧ vbX fm ≠ 11 ∧ vbX fm ≠ 12 ∧ vbX fm ≠ 13 := by unfold vbX; split <;> (try split) <;> omega
        have e11 : (11 : Int32) = nI 11 := rfl
        have e12 : (12 : Int32) = nI 12 := rfl
        have e13 : (13 : Int32) = nI 13 := rfl
        have c1 := eq_false hn.2.2.1
        have c2 := eq_false hn.2.2.2.1
        have c3 := eq_false hn.2.2.2.2
        have hn2 := hn.2.1
        rw [hcb]
        simp (disch := first | exact rt_bo_0 | exact rt_bo_1 | exact ns_float | exact ns_int | exact ns_ref | assumption | omega | (simp (disch := omega) only [ob_27, rg_27_0 hR, rg_27_1 hR, rg_27_2 hR, rg_27_3 hR, ar_28, ln_28, rg_27_4 hR, ar_29, ln_29, rg_27_5 hR, ar_30, ln_30, ob_1, rg_1_0 hR, ar_2, ln_2, rg_1_1 hR, ar_3, ln_3, rg_1_2 hR, ar_4, ln_4, rg_1_3 hR, ar_5, ln_5, rg_1_4 hR, ar_6, ln_6, ob_17, rg_17_0 hR, rg_17_1 hR, rg_17_2 hR, ar_26, ln_26, rt_in_nI, Option.isSome_some, Option.getD_some, Bool.or_true, Bool.true_or]; done) | fail) only [e_X5_canBeDone_0, e_X5_canBeDone_1, e_X5_canBeDone_4, e_X5_canBeDone_32, e_X5_canBeDone_33, e_X5_canBeDone_36, e_X5_canBeDone_39, e_X5_canBeDone_40, e_X5_canBeDone_43, e_X5_canBeDone_44, e_X5_canBeDone_47, e_X5_canBeDone_48, e_X5_canBeDone_49, e_X5_canBeDone_50, e_X5_canBeDone_51, e_X5_canBeDone_52, e_X5_canBeDone_53, e_X5_canBeDone_56, e_X5_canBeDone_59, e_X5_canBeDone_62, e_X5_canBeDone_63, e_X5_canBeDone_65, e_X5_canBeDone_68, e_X5_canBeDone_69, e_X5_canBeDone_72, e_X5_canBeDone_73, e_X5_canBeDone_76, e_X5_canBeDone_77, e_X5_canBeDone_80, e_X5_canBeDone_81, e_X5_canBeDone_82, e_X5_canBeDone_83, e_X5_canBeDone_84, e_X5_canBeDone_85, e_X5_canBeDone_86, e_X5_canBeDone_89, e_X5_canBeDone_92, e_X5_canBeDone_95, e_X5_canBeDone_96, e_X5_canBeDone_97, e_X5_canBeDone_100, e_X5_canBeDone_103, e_X5_canBeDone_105, e_X5_canBeDone_108, e_X5_canBeDone_109, e_X5_canBeDone_110, e_X5_canBeDone_111, e_X5_canBeDone_114, e_X5_canBeDone_117, e_X5_canBeDone_118, e_X5_canBeDone_121, e_X5_canBeDone_122, e_X5_canBeDone_125, e_X5_canBeDone_126, e_X5_canBeDone_129, e_X5_canBeDone_130, e_X5_canBeDone_133, e_X5_canBeDone_134, e_X5_canBeDone_137, e_X5_canBeDone_138, e_X5_canBeDone_139, e_X5_canBeDone_140, e_X4_verb_0, e_X4_verb_1, e_X4_verb_4, hv, e11, e12, e13, q_eq, c1, c2, c3, if_false, Option.getD_some, Option.bind_some, Option.toList_some, Option.toList_none, List.cons_append, List.nil_append]
        rfl
theorem x_row (hR : RG R a b) (hy : YX I a T q NR dg nw ln fm dn) (hr : r < NR) : Ev mX2_row 0 [.ref 23, .int (nI r)] [] (71 + e, I, L, R) = some (some (.int (I a r)), (71 + e, I, L, R)) := by
  have h2 := hy.2.1
  have h3 := hy.2.2.1
  have ha : rt_ar (71 + e) a 1 = true ∧ rt_ln a = 264 := by
    rcases hy.2.2.2.2.2.2.2.2.2.2.1 with rfl | rfl
    · exact ⟨ar_24 e, ln_24⟩
    · exact ⟨ar_25 e, ln_25⟩
  have a1 := ha.1
  have a2 := ha.2
  have c : ¬ NR ≤ r := by omega
  simp (disch := first | exact rt_bo_0 | exact rt_bo_1 | exact ns_float | exact ns_int | exact ns_ref | assumption | omega | (simp (disch := omega) only [ob_23, rg_23_0 hR, rg_23_1 hR, a1, a2, rt_in_nI, Option.isSome_some, Option.getD_some, Bool.or_true, Bool.true_or]; done) | fail) only [e_X2_row_0, e_X2_row_1, e_X2_row_4, e_X2_row_5, e_X2_row_6, e_X2_row_9, e_X2_row_12, e_X2_row_13, e_X2_row_16, e_X2_row_17, e_X2_row_18, e_X2_row_21, e_X2_row_22, h2, rg_23_0 hR, q_l0, q_le, c, nI_cl, if_false, Option.getD_some, Option.bind_some, Option.toList_some, Option.toList_none, List.cons_append, List.nil_append]
theorem x_weigh_l (hR : RG R a b) {J : Nat → Nat → Int32} (hT : J 1 5 = nI T) (h16 : T ≤ 16) (hO : RoomOK T (J 2) (J 5)) (hy : YX J a T q NR dg nw ln fm dn) (hF : YF q NR dg fm dn) (hr : r < NR) {mn : Nat → Nat → Bool} (hm : ∀ j, j < pP q → J 29 j = bs (mn j) T) :
    ∀ (g k : Nat) (I : Nat → Nat → Int32), k + g = pP q → (∀ c, c ≠ 27 → I c = J c) → I 27 7 = -1 → I 27 8 = -1 → I 27 9 = -1 →
    ∃ I2, Ev mX5_weigh 36 [.ref 27, .ref 17, .int (nI r), .int (J a r), .int (nI k)] [] (71 + e, I, L, R) = some (none, (71 + e, I2, L, R)) ∧ (∀ c, c ≠ 27 → I2 c = J c) ∧ I2 27 6 = trk T (J 2) (J 5) q fm dn mn (dg r) k g ∧ I2 27 7 = ff (fun k => ¬ tnp T q mn k = 0) k g ∧ (trk T (J 2) (J 5) q fm dn mn (dg r) k g = 0 → I2 27 8 = mvv T (J 2) fm mn ∧ I2 27 9 = glv T (J 2) (J 5) q fm dn mn (dg r)) := by
  have hP7 := hy.2.2.2.2.2.2.2.1.1
  have hwq := hy.2.2.2.2.2.2.2.1
  have ha : a = 24 ∨ a = 25 := hy.2.2.2.2.2.2.2.2.2.2.1
  intro g
  induction g with
  | zero =>
    intro k I hk hf h7 h8 h9
    have c : pP q ≤ k := by omega
    have f2 := hf 2 (by omega)
    have f5 := hf 5 (by omega)
    have hyI : YX I a T q NR dg nw ln fm dn := YX_fr hy (fun c hc => hf c (by omega))
    obtain ⟨I2, hE, g1, g2, g3, g4, g5⟩ := x_cbd (e := e) (I := I) (L := L) hR (by rw [hf 1 (by omega)]; exact hT) h16 (by rw [f2, f5]; exact hO) hyI hF hr (mn := mn) (fun j hj => by rw [hf 29 (by omega)]; exact hm j hj) h8 h9
    rw [f2, f5, hf a (by omega)] at hE
    rw [f2] at g4
    rw [f2, f5] at g5
    have hq4 := hyI.1.1
    have hend : ∀ z : Int32, ∃ I3, I3 = rt_up I2 27 6 z := fun z => ⟨_, rfl⟩
    refine ⟨rt_up I2 27 6 (if cbd T (J 2) (J 5) q fm dn mn (dg r) = true then 0 else 5), ?_, fun c hc => by rw [rt_up_f hc, g1 c hc, hf c hc], by rw [rt_up_eq]; rfl, by rw [rt_up_n2 (by omega), g3, h7]; rfl, fun _ => ⟨by rw [rt_up_n2 (by omega), g4], by rw [rt_up_n2 (by omega), g5]⟩⟩
    rw [e_X5_weigh_36]
    simp (disch := first | exact rt_bo_0 | exact rt_bo_1 | exact ns_float | exact ns_int | exact ns_ref | assumption | omega | (simp (disch := omega) only [ob_27, rg_27_0 hR, rg_27_1 hR, rg_27_2 hR, rg_27_3 hR, ar_28, ln_28, rg_27_4 hR, ar_29, ln_29, rg_27_5 hR, ar_30, ln_30, ob_17, rg_17_0 hR, rg_17_1 hR, rg_17_2 hR, ar_26, ln_26, ob_18, rg_18_0 hR, ar_19, ln_19, rg_18_1 hR, ar_20, ln_20, rg_18_2 hR, ar_21, ln_21, rg_18_3 hR, ar_22, ln_22, rt_in_nI, Option.isSome_some, Option.getD_some, Bool.or_true, Bool.true_or]; done) | fail) only [e_X5_weigh_0, e_X5_weigh_1, e_X5_weigh_4, e_X5_weigh_5, e_X5_weigh_8, e_X5_weigh_9, e_X5_weigh_10, e_X5_weigh_11, e_X5_weigh_14, e_X5_weigh_15, e_X5_weigh_18, e_X5_weigh_19, e_X5_weigh_20, e_X5_weigh_23, e_X5_weigh_24, e_X5_weigh_25, e_X5_weigh_28, e_X5_weigh_29, e_X5_weigh_30, e_X5_weigh_33, e_X5_weigh_34, e_X5_weigh_38, e_X5_weigh_39, e_X5_weigh_42, e_X5_weigh_45, e_X5_weigh_48, e_X5_weigh_49, e_X5_weigh_50, e_X5_weigh_53, e_X5_weigh_55, e_X5_weigh_58, e_X5_weigh_59, e_X5_weigh_61, e_X5_weigh_64, e_X5_weigh_67, e_X5_weigh_70, e_X5_weigh_71, e_X5_weigh_74, e_X5_weigh_77, e_X5_weigh_78, e_X5_weigh_80, e_X5_weigh_83, e_X5_weigh_84, e_X5_weigh_87, e_X5_weigh_90, e_X5_weigh_91, e_X5_weigh_92, e_X5_weigh_93, e_X5_weigh_94, e_X5_weigh_97, e_X5_weigh_100, e_X5_weigh_101, e_X5_weigh_104, e_X5_weigh_105, e_X5_weigh_108, e_X1_nps_0, e_X1_nps_1, e_X1_nps_4, rg_17_0 hR, hq4, q_le, c, hE, b01_0, if_true, Option.getD_some, Option.bind_some, Option.toList_some, Option.toList_none, List.cons_append, List.nil_append]
    cases cbd T (J 2) (J 5) q fm dn mn (dg r) <;> simp
  | succ g ih =>
    intro k I hk hf h7 h8 h9
    have c : ¬ pP q ≤ k := by omega
    have hkP : k < pP q := by omega
    have hyI : YX I a T q NR dg nw ln fm dn := YX_fr hy (fun c hc => hf c (by omega))
    have hki := x_kind (e := e) (I := I) (L := L) (PH18 hR) hyI.1 hP7 hkP
    have hme := x_meantBy (e := e) (I := I) (L := L) (k := k) hR (by omega)
    rw [hf 29 (by omega), hm k hkP] at hme
    have htn := fun (h : rt_H) => x_tnp (q := q) (k := k) h16 (mn := mn) (hwq.2.2.1 k hkP).1 (h := h)
    have hq4 := hyI.1.1
    have htk : trk T (J 2) (J 5) q fm dn mn (dg r) k (g + 1) = if tnp T q mn k = 0 then trk T (J 2) (J 5) q fm dn mn (dg r) (k + 1) g else tnp T q mn k := rfl
    have hff : ff (fun k => ¬ tnp T q mn k = 0) k (g + 1) = if ¬ tnp T q mn k = 0 then nI k else ff (fun k => ¬ tnp T q mn k = 0) (k + 1) g := rfl
    rw [e_X5_weigh_36, htk, hff]
    by_cases h0 : tnp T q mn k = 0
    · obtain ⟨I2, hE, g1, g2, g3, g4⟩ := ih (k + 1) (rt_up I 27 6 0) (by omega) (fun c hc => by rw [rt_up_f hc]; exact hf c hc) (by rw [rt_up_n2 (by omega)]; exact h7) (by rw [rt_up_n2 (by omega)]; exact h8) (by rw [rt_up_n2 (by omega)]; exact h9)
      refine ⟨I2, ?_, g1, ?_, ?_, ?_⟩
      · simp (disch := first | exact rt_bo_0 | exact rt_bo_1 | exact ns_float | exact ns_int | exact ns_ref | assumption | omega | (simp (disch := omega) only [ob_27, rg_27_0 hR, rg_27_1 hR, rg_27_2 hR, rg_27_3 hR, ar_28, ln_28, rg_27_4 hR, ar_29, ln_29, rg_27_5 hR, ar_30, ln_30, ob_17, rg_17_0 hR, rg_17_1 hR, rg_17_2 hR, ar_26, ln_26, ob_18, rg_18_0 hR, ar_19, ln_19, rg_18_1 hR, ar_20, ln_20, rg_18_2 hR, ar_21, ln_21, rg_18_3 hR, ar_22, ln_22, rt_in_nI, Option.isSome_some, Option.getD_some, Bool.or_true, Bool.true_or]; done) | fail) only [e_X5_weigh_0, e_X5_weigh_1, e_X5_weigh_4, e_X5_weigh_5, e_X5_weigh_8, e_X5_weigh_9, e_X5_weigh_10, e_X5_weigh_11, e_X5_weigh_14, e_X5_weigh_15, e_X5_weigh_18, e_X5_weigh_19, e_X5_weigh_20, e_X5_weigh_23, e_X5_weigh_24, e_X5_weigh_25, e_X5_weigh_28, e_X5_weigh_29, e_X5_weigh_30, e_X5_weigh_33, e_X5_weigh_34, e_X5_weigh_38, e_X5_weigh_39, e_X5_weigh_42, e_X5_weigh_45, e_X5_weigh_48, e_X5_weigh_49, e_X5_weigh_50, e_X5_weigh_53, e_X5_weigh_55, e_X5_weigh_58, e_X5_weigh_59, e_X5_weigh_61, e_X5_weigh_64, e_X5_weigh_67, e_X5_weigh_70, e_X5_weigh_71, e_X5_weigh_74, e_X5_weigh_77, e_X5_weigh_78, e_X5_weigh_80, e_X5_weigh_83, e_X5_weigh_84, e_X5_weigh_87, e_X5_weigh_90, e_X5_weigh_91, e_X5_weigh_92, e_X5_weigh_93, e_X5_weigh_94, e_X5_weigh_97, e_X5_weigh_100, e_X5_weigh_101, e_X5_weigh_104, e_X5_weigh_105, e_X5_weigh_108, e_X1_nps_0, e_X1_nps_1, e_X1_nps_4, rg_17_0 hR, hq4, q_le, q_s, c, hki, hme, htn, h0, rt_up_eq, if_true, if_false, Option.getD_some, Option.bind_some, Option.toList_some, Option.toList_none, List.cons_append, List.nil_append]
        exact hE
      · rw [if_pos h0]; exact g2
      · rw [if_neg (by simp [h0])]; exact g3
      · rw [if_pos h0]; exact g4
    · refine ⟨rt_up (rt_up I 27 6 (tnp T q mn k)) 27 7 (nI k), ?_, fun c hc => by rw [rt_up_f hc, rt_up_f hc]; exact hf c hc, ?_, ?_, ?_⟩
      · simp (disch := first | exact rt_bo_0 | exact rt_bo_1 | exact ns_float | exact ns_int | exact ns_ref | assumption | omega | (simp (disch := omega) only [ob_27, rg_27_0 hR, rg_27_1 hR, rg_27_2 hR, rg_27_3 hR, ar_28, ln_28, rg_27_4 hR, ar_29, ln_29, rg_27_5 hR, ar_30, ln_30, ob_17, rg_17_0 hR, rg_17_1 hR, rg_17_2 hR, ar_26, ln_26, ob_18, rg_18_0 hR, ar_19, ln_19, rg_18_1 hR, ar_20, ln_20, rg_18_2 hR, ar_21, ln_21, rg_18_3 hR, ar_22, ln_22, rt_in_nI, Option.isSome_some, Option.getD_some, Bool.or_true, Bool.true_or]; done) | fail) only [e_X5_weigh_0, e_X5_weigh_1, e_X5_weigh_4, e_X5_weigh_5, e_X5_weigh_8, e_X5_weigh_9, e_X5_weigh_10, e_X5_weigh_11, e_X5_weigh_14, e_X5_weigh_15, e_X5_weigh_18, e_X5_weigh_19, e_X5_weigh_20, e_X5_weigh_23, e_X5_weigh_24, e_X5_weigh_25, e_X5_weigh_28, e_X5_weigh_29, e_X5_weigh_30, e_X5_weigh_33, e_X5_weigh_34, e_X5_weigh_38, e_X5_weigh_39, e_X5_weigh_42, e_X5_weigh_45, e_X5_weigh_48, e_X5_weigh_49, e_X5_weigh_50, e_X5_weigh_53, e_X5_weigh_55, e_X5_weigh_58, e_X5_weigh_59, e_X5_weigh_61, e_X5_weigh_64, e_X5_weigh_67, e_X5_weigh_70, e_X5_weigh_71, e_X5_weigh_74, e_X5_weigh_77, e_X5_weigh_78, e_X5_weigh_80, e_X5_weigh_83, e_X5_weigh_84, e_X5_weigh_87, e_X5_weigh_90, e_X5_weigh_91, e_X5_weigh_92, e_X5_weigh_93, e_X5_weigh_94, e_X5_weigh_97, e_X5_weigh_100, e_X5_weigh_101, e_X5_weigh_104, e_X5_weigh_105, e_X5_weigh_108, e_X1_nps_0, e_X1_nps_1, e_X1_nps_4, rg_17_0 hR, hq4, q_le, q_s, c, hki, hme, htn, h0, rt_up_eq, if_true, if_false, Option.getD_some, Option.bind_some, Option.toList_some, Option.toList_none, List.cons_append, List.nil_append]
      · rw [if_neg h0, rt_up_n2 (by omega), rt_up_eq]
      · rw [if_pos h0, rt_up_eq]
      · rw [if_neg h0]; intro hh; exact absurd hh h0
/-- what the class has once it has weighed a reading -/
theorem x_weigh (h : SX e I R a b T nw tp td to_ it th) (hy : YX I a T q NR dg nw ln fm dn) (hF : YF q NR dg fm dn) (hr : r < NR) (hal : ∀ k, k < pP q → I 28 k = bs (al k) T) :
    ∃ I2, Ev mX5_weigh 0 [.ref 27, .ref 17, .int (nI r), .float 0, .float 0] [] (71 + e, I, L, R) = some (none, (71 + e, I2, L, R)) ∧ (∀ c, c ≠ 27 → c ≠ 29 → I2 c = I c) ∧ (∀ j, j < pP q → I2 29 j = bs (mng T (I 2) (I 5) q (dg r) al j) T) ∧ I2 27 6 = trk T (I 2) (I 5) q fm dn (mng T (I 2) (I 5) q (dg r) al) (dg r) 0 (pP q) ∧ I2 27 7 = ff (fun k => ¬ tnp T q (mng T (I 2) (I 5) q (dg r) al) k = 0) 0 (pP q) ∧ (trk T (I 2) (I 5) q fm dn (mng T (I 2) (I 5) q (dg r) al) (dg r) 0 (pP q) = 0 → I2 27 8 = mvv T (I 2) fm (mng T (I 2) (I 5) q (dg r) al) ∧ I2 27 9 = glv T (I 2) (I 5) q fm dn (mng T (I 2) (I 5) q (dg r) al) (dg r)) := by
  have hR := h.1
  have ha : a = 24 ∨ a = 25 := hy.2.2.2.2.2.2.2.2.2.2.1
  obtain ⟨IA, hA1, hA2, hA3⟩ := x_link (e := e) (L := L) hR h.2.1 h.2.2.1 h.2.2.2.1 (PH18 hR) (Or.inl rfl) hy.1 hy.2.2.2.2.2.2.2.1 (hy.2.2.2.2.1 r hr).2 (hy.2.2.2.2.1 r hr).1 hal
  have f2 := hA2 2 (by omega)
  have f5 := hA2 5 (by omega)
  obtain ⟨I2, hE, g1, g2, g3, g4⟩ := x_weigh_l (e := e) (L := L) (J := IA) hR (by rw [hA2 1 (by omega)]; exact h.2.1) h.2.2.1 (by rw [f2, f5]; exact h.2.2.2.1) (YX_fr hy (fun c hc => hA2 c (by omega))) hF hr hA3 (pP q) 0 (rt_up (rt_up (rt_up IA 27 7 (-1)) 27 8 (-1)) 27 9 (-1)) (by omega) (fun c hc => by rw [rt_up_f hc, rt_up_f hc, rt_up_f hc]) (by rw [rt_up_n2 (by omega), rt_up_n2 (by omega), rt_up_eq]) (by rw [rt_up_n2 (by omega), rt_up_eq]) (by rw [rt_up_eq])
  rw [f2, f5] at g2 g4
  rw [hA2 a (by omega), nI_0] at hE
  refine ⟨I2, ?_, fun c h1 h2 => by rw [g1 c h1, hA2 c h2], fun j hj => by rw [g1 29 (by omega)]; exact hA3 j hj, g2, g3, g4⟩
  simp (disch := first | exact rt_bo_0 | exact rt_bo_1 | exact ns_float | exact ns_int | exact ns_ref | assumption | omega | (simp (disch := omega) only [ob_27, rg_27_0 hR, rg_27_1 hR, rg_27_2 hR, rg_27_3 hR, ar_28, ln_28, rg_27_4 hR, ar_29, ln_29, rg_27_5 hR, ar_30, ln_30, ob_17, rg_17_0 hR, rg_17_1 hR, rg_17_2 hR, ar_26, ln_26, ob_18, rg_18_0 hR, ar_19, ln_19, rg_18_1 hR, ar_20, ln_20, rg_18_2 hR, ar_21, ln_21, rg_18_3 hR, ar_22, ln_22, ob_23, rg_23_0 hR, rg_23_1 hR, rt_in_nI, Option.isSome_some, Option.getD_some, Bool.or_true, Bool.true_or]; done) | fail) only [e_X5_weigh_0, e_X5_weigh_1, e_X5_weigh_4, e_X5_weigh_5, e_X5_weigh_8, e_X5_weigh_9, e_X5_weigh_10, e_X5_weigh_11, e_X5_weigh_14, e_X5_weigh_15, e_X5_weigh_18, e_X5_weigh_19, e_X5_weigh_20, e_X5_weigh_23, e_X5_weigh_24, e_X5_weigh_25, e_X5_weigh_28, e_X5_weigh_29, e_X5_weigh_30, e_X5_weigh_33, e_X5_weigh_34, e_X5_weigh_38, e_X5_weigh_39, e_X5_weigh_42, e_X5_weigh_45, e_X5_weigh_48, e_X5_weigh_49, e_X5_weigh_50, e_X5_weigh_53, e_X5_weigh_55, e_X5_weigh_58, e_X5_weigh_59, e_X5_weigh_61, e_X5_weigh_64, e_X5_weigh_67, e_X5_weigh_70, e_X5_weigh_71, e_X5_weigh_74, e_X5_weigh_77, e_X5_weigh_78, e_X5_weigh_80, e_X5_weigh_83, e_X5_weigh_84, e_X5_weigh_87, e_X5_weigh_90, e_X5_weigh_91, e_X5_weigh_92, e_X5_weigh_93, e_X5_weigh_94, e_X5_weigh_97, e_X5_weigh_100, e_X5_weigh_101, e_X5_weigh_104, e_X5_weigh_105, e_X5_weigh_108, rg_17_0 hR, rg_17_1 hR, x_row hR hy hr, hA1, hE, Option.getD_some, Option.bind_some, Option.toList_some, Option.toList_none, List.cons_append, List.nil_append]
/-- whether some of NP 0 is there -/
def thr (T : Nat) (so at_ : Nat → Int32) (q : PhT) (mn : Nat → Nat → Bool) (d : Nat → Nat) : Bool := exb (fun x => mn 0 x && lkd T so at_ (pR q (plN (pO q) d)) (mn (plN (pO q) d + 1)) x) T
def anX (T : Nat) (so at_ : Nat → Int32) (q : PhT) (fm : Nat) (mn : Nat → Nat → Bool) (d : Nat → Nat) : Int32 :=
  if fm = 4 then nI (cn (mn 0) T) else if fm = 5 then bs (mn 0) T else b01 (thr T so at_ q mn d)
/-- what a reading comes to, by the class -/
def upX (T : Nat) (so at_ : Nat → Int32) (q : PhT) (fm : Nat) (dn : Bool) (mn : Nat → Nat → Bool) (d : Nat → Nat) : Int32 :=
  if fm = 0 ∨ fm = 1 then mvv T so fm mn * 32 + glv T so at_ q fm dn mn d else if fm = 7 ∨ fm = 8 then bs (mn 0) T else if fm = 3 ∨ fm = 4 ∨ fm = 5 then anX T so at_ q fm mn d else 0
theorem thr_bs {so at_ : Nat → Int32} {mn : Nat → Nat → Bool} {d : Nat → Nat} (h16 : T ≤ 16) : (bs (fun x => mn 0 x && lkd T so at_ (pR q (plN (pO q) d)) (mn (plN (pO q) d + 1)) x) T = 0) = (thr T so at_ q mn d = false) := by
  rw [eq_iff_iff, bs_z (by omega)]
  unfold thr
  constructor
  · intro hz
    cases hh : exb (fun x => mn 0 x && lkd T so at_ (pR q (plN (pO q) d)) (mn (plN (pO q) d + 1)) x) T with
    | false => rfl
    | true =>
      obtain ⟨x, h1, h2⟩ := exb_iff.mp hh
      have := hz x h1
      rw [this] at h2
      cases h2
  · intro hz x hx
    cases hh : (mn 0 x && lkd T so at_ (pR q (plN (pO q) d)) (mn (plN (pO q) d + 1)) x) with
    | false => rfl
    | true =>
      rw [exb_iff.mpr ⟨x, hx, hh⟩] at hz
      cases hz
theorem x_ans (h : SX e I R a b T nw tp td to_ it th) (hy : YX I a T q NR dg nw ln fm dn) (hF : YF q NR dg fm dn) (hr : r < NR) {mn : Nat → Nat → Bool} (hm : ∀ j, j < pP q → I 29 j = bs (mn j) T) (hfm : fm = 3 ∨ fm = 4 ∨ fm = 5) :
    Ev mX5_answerFor 0 [.ref 27, .ref 17, .int (nI r), .float 0] [] (71 + e, I, L, R) = some (some (.int (anX T (I 2) (I 5) q fm mn (dg r))), (71 + e, I, L, R)) := by
  have hR := h.1
  have h16 := h.2.2.1
  have hv := hy.2.2.2.2.2.2.2.2.1
  have hme := x_meantBy (e := e) (I := I) (L := L) (k := 0) hR (by omega)
  rw [hm 0 (hF.2.1 (by omega)), nI_0] at hme
  rcases hfm with rfl | rfl | rfl
  · have hv' : I 17 4 = 14 := hv
    have d1 : ((14 : Int32) = 15) = False := by decide
    have d2 : ((14 : Int32) = 16) = False := by decide
    have y8 := hy.2.2.2.2.2.2.2.1
    have hO6 : pO q ≤ 6 := by have := y8.1; have := y8.2.1; omega
    obtain ⟨p1, p2, p3⟩ := plc_some hO6 (hF.2.2.2.2.1 (Or.inr rfl) r hr)
    have hP : pP q = pO q + 1 := by have := y8.2.1; omega
    have hP7 := y8.1
    have hx := x_plc (e := e) (I := I) (L := L) hR hy.2.2.2.1 hO6 (hy.2.2.2.2.1 r hr).1 (fun i hi => ((hy.2.2.2.2.1 r hr).2 i hi).1)
    rw [p2] at hx
    have hme2 := x_meantBy (e := e) (I := I) (L := L) (k := plN (pO q) (dg r) + 1) hR (by omega)
    rw [hm _ (by omega)] at hme2
    have hrel := x_relation (e := e) (I := I) (L := L) (PH18 hR) hy.1 hO6 p1
    have hrd := x_related (e := e) (L := L) hR h.2.1 h16 h.2.2.2.1 (V := mn 0) (S := mn (plN (pO q) (dg r) + 1)) (y8.2.2.2 _ p1)
    have han : anX T (I 2) (I 5) q 3 mn (dg r) = b01 (thr T (I 2) (I 5) q mn (dg r)) := by unfold anX; simp
    rw [han]
    simp (disch := first | exact rt_bo_0 | exact rt_bo_1 | exact ns_float | exact ns_int | exact ns_ref | assumption | omega | (simp (disch := omega) only [ob_27, rg_27_0 hR, rg_27_1 hR, rg_27_2 hR, rg_27_3 hR, ar_28, ln_28, rg_27_4 hR, ar_29, ln_29, rg_27_5 hR, ar_30, ln_30, ob_1, rg_1_0 hR, ar_2, ln_2, rg_1_1 hR, ar_3, ln_3, rg_1_2 hR, ar_4, ln_4, rg_1_3 hR, ar_5, ln_5, rg_1_4 hR, ar_6, ln_6, ob_17, rg_17_0 hR, rg_17_1 hR, rg_17_2 hR, ar_26, ln_26, ob_18, rg_18_0 hR, ar_19, ln_19, rg_18_1 hR, ar_20, ln_20, rg_18_2 hR, ar_21, ln_21, rg_18_3 hR, ar_22, ln_22, ob_23, rg_23_0 hR, rg_23_1 hR, rt_in_nI, Option.isSome_some, Option.getD_some, Bool.or_true, Bool.true_or]; done) | fail) only [e_X5_answerFor_0, e_X5_answerFor_1, e_X5_answerFor_4, e_X5_answerFor_32, e_X5_answerFor_33, e_X5_answerFor_34, e_X5_answerFor_37, e_X5_answerFor_40, e_X5_answerFor_41, e_X5_answerFor_42, e_X5_answerFor_43, e_X5_answerFor_46, e_X5_answerFor_47, e_X5_answerFor_48, e_X5_answerFor_51, e_X5_answerFor_52, e_X5_answerFor_55, e_X5_answerFor_56, e_X5_answerFor_59, e_X5_answerFor_62, e_X5_answerFor_63, e_X5_answerFor_64, e_X5_answerFor_65, e_X5_answerFor_68, e_X5_answerFor_69, e_X5_answerFor_70, e_X5_answerFor_71, e_X5_answerFor_74, e_X5_answerFor_75, e_X5_answerFor_76, e_X5_answerFor_79, e_X5_answerFor_80, e_X5_answerFor_83, e_X5_answerFor_84, e_X5_answerFor_87, e_X5_answerFor_88, e_X5_answerFor_89, e_X5_answerFor_90, e_X5_answerFor_91, e_X5_answerFor_94, e_X5_answerFor_97, e_X5_answerFor_100, e_X5_answerFor_101, e_X5_answerFor_104, e_X5_answerFor_105, e_X4_verb_0, e_X4_verb_1, e_X4_verb_4, hv', d1, d2, rg_17_1 hR, rg_17_0 hR, rg_27_0 hR, x_row hR hy hr, hx, q_e1, q_s, hme, hrel, hme2, hrd, thr_bs h16, if_false, Option.getD_some, Option.bind_some, Option.toList_some, Option.toList_none, List.cons_append, List.nil_append, q_sv]
    cases thr T (I 2) (I 5) q mn (dg r) <;> simp [b01]
  · have hv' : I 17 4 = 15 := hv
    simp (disch := first | exact rt_bo_0 | exact rt_bo_1 | exact ns_float | exact ns_int | exact ns_ref | assumption | omega | (simp (disch := omega) only [ob_27, rg_27_0 hR, rg_27_1 hR, rg_27_2 hR, rg_27_3 hR, ar_28, ln_28, rg_27_4 hR, ar_29, ln_29, rg_27_5 hR, ar_30, ln_30, ob_1, rg_1_0 hR, ar_2, ln_2, rg_1_1 hR, ar_3, ln_3, rg_1_2 hR, ar_4, ln_4, rg_1_3 hR, ar_5, ln_5, rg_1_4 hR, ar_6, ln_6, ob_17, rg_17_0 hR, rg_17_1 hR, rg_17_2 hR, ar_26, ln_26, ob_18, rg_18_0 hR, ar_19, ln_19, rg_18_1 hR, ar_20, ln_20, rg_18_2 hR, ar_21, ln_21, rg_18_3 hR, ar_22, ln_22, ob_23, rg_23_0 hR, rg_23_1 hR, rt_in_nI, Option.isSome_some, Option.getD_some, Bool.or_true, Bool.true_or]; done) | fail) only [e_X5_answerFor_0, e_X5_answerFor_1, e_X5_answerFor_4, e_X5_answerFor_32, e_X5_answerFor_33, e_X5_answerFor_34, e_X5_answerFor_37, e_X5_answerFor_40, e_X5_answerFor_41, e_X5_answerFor_42, e_X5_answerFor_43, e_X5_answerFor_46, e_X5_answerFor_47, e_X5_answerFor_48, e_X5_answerFor_51, e_X5_answerFor_52, e_X5_answerFor_55, e_X5_answerFor_56, e_X5_answerFor_59, e_X5_answerFor_62, e_X5_answerFor_63, e_X5_answerFor_64, e_X5_answerFor_65, e_X5_answerFor_68, e_X5_answerFor_69, e_X5_answerFor_70, e_X5_answerFor_71, e_X5_answerFor_74, e_X5_answerFor_75, e_X5_answerFor_76, e_X5_answerFor_79, e_X5_answerFor_80, e_X5_answerFor_83, e_X5_answerFor_84, e_X5_answerFor_87, e_X5_answerFor_88, e_X5_answerFor_89, e_X5_answerFor_90, e_X5_answerFor_91, e_X5_answerFor_94, e_X5_answerFor_97, e_X5_answerFor_100, e_X5_answerFor_101, e_X5_answerFor_104, e_X5_answerFor_105, e_X4_verb_0, e_X4_verb_1, e_X4_verb_4, hv', hme, x_bits h16, if_true, if_false, Option.getD_some, Option.bind_some, Option.toList_some, Option.toList_none, List.cons_append, List.nil_append]
    unfold anX
    simp
  · have hv' : I 17 4 = 16 := hv
    have d1 : ((16 : Int32) = 15) = False := by decide
    simp (disch := first | exact rt_bo_0 | exact rt_bo_1 | exact ns_float | exact ns_int | exact ns_ref | assumption | omega | (simp (disch := omega) only [ob_27, rg_27_0 hR, rg_27_1 hR, rg_27_2 hR, rg_27_3 hR, ar_28, ln_28, rg_27_4 hR, ar_29, ln_29, rg_27_5 hR, ar_30, ln_30, ob_1, rg_1_0 hR, ar_2, ln_2, rg_1_1 hR, ar_3, ln_3, rg_1_2 hR, ar_4, ln_4, rg_1_3 hR, ar_5, ln_5, rg_1_4 hR, ar_6, ln_6, ob_17, rg_17_0 hR, rg_17_1 hR, rg_17_2 hR, ar_26, ln_26, ob_18, rg_18_0 hR, ar_19, ln_19, rg_18_1 hR, ar_20, ln_20, rg_18_2 hR, ar_21, ln_21, rg_18_3 hR, ar_22, ln_22, ob_23, rg_23_0 hR, rg_23_1 hR, rt_in_nI, Option.isSome_some, Option.getD_some, Bool.or_true, Bool.true_or]; done) | fail) only [e_X5_answerFor_0, e_X5_answerFor_1, e_X5_answerFor_4, e_X5_answerFor_32, e_X5_answerFor_33, e_X5_answerFor_34, e_X5_answerFor_37, e_X5_answerFor_40, e_X5_answerFor_41, e_X5_answerFor_42, e_X5_answerFor_43, e_X5_answerFor_46, e_X5_answerFor_47, e_X5_answerFor_48, e_X5_answerFor_51, e_X5_answerFor_52, e_X5_answerFor_55, e_X5_answerFor_56, e_X5_answerFor_59, e_X5_answerFor_62, e_X5_answerFor_63, e_X5_answerFor_64, e_X5_answerFor_65, e_X5_answerFor_68, e_X5_answerFor_69, e_X5_answerFor_70, e_X5_answerFor_71, e_X5_answerFor_74, e_X5_answerFor_75, e_X5_answerFor_76, e_X5_answerFor_79, e_X5_answerFor_80, e_X5_answerFor_83, e_X5_answerFor_84, e_X5_answerFor_87, e_X5_answerFor_88, e_X5_answerFor_89, e_X5_answerFor_90, e_X5_answerFor_91, e_X5_answerFor_94, e_X5_answerFor_97, e_X5_answerFor_100, e_X5_answerFor_101, e_X5_answerFor_104, e_X5_answerFor_105, e_X4_verb_0, e_X4_verb_1, e_X4_verb_4, hv', d1, hme, if_true, if_false, Option.getD_some, Option.bind_some, Option.toList_some, Option.toList_none, List.cons_append, List.nil_append]
    unfold anX
    simp
theorem x_ups (h : SX e I R a b T nw tp td to_ it th) (hy : YX I a T q NR dg nw ln fm dn) (hF : YF q NR dg fm dn) (hr : r < NR) {mn : Nat → Nat → Bool} (hm : ∀ j, j < pP q → I 29 j = bs (mn j) T) (h8 : I 27 8 = mvv T (I 2) fm mn) (h9 : I 27 9 = glv T (I 2) (I 5) q fm dn mn (dg r)) :
    Ev mX5_upshotOf 0 [.ref 27, .ref 17, .int (nI r)] [] (71 + e, I, L, R) = some (some (.int (upX T (I 2) (I 5) q fm dn mn (dg r))), (71 + e, I, L, R)) := by
  have hR := h.1
  have hv := hy.2.2.2.2.2.2.2.2.1
  have hfm := hF.1
  have hme := x_meantBy (e := e) (I := I) (L := L) (k := 0) hR (by omega)
  rw [nI_0] at hme
  unfold upX
  have hc : fm = 0 ∨ fm = 1 ∨ fm = 2 ∨ fm = 3 ∨ fm = 4 ∨ fm = 5 ∨ fm = 6 ∨ fm = 7 ∨ fm = 8 := by omega
  rcases hc with rfl | rfl | rfl | rfl | rfl | rfl | rfl | rfl | rfl
  · have hv' : I 17 4 = 11 := hv
    simp (disch := first | exact rt_bo_0 | exact rt_bo_1 | exact ns_float | exact ns_int | exact ns_ref | assumption | omega | (simp (disch := omega) only [ob_27, rg_27_0 hR, rg_27_1 hR, rg_27_2 hR, rg_27_3 hR, ar_28, ln_28, rg_27_4 hR, ar_29, ln_29, rg_27_5 hR, ar_30, ln_30, ob_1, rg_1_0 hR, ar_2, ln_2, rg_1_1 hR, ar_3, ln_3, rg_1_2 hR, ar_4, ln_4, rg_1_3 hR, ar_5, ln_5, rg_1_4 hR, ar_6, ln_6, ob_17, rg_17_0 hR, rg_17_1 hR, rg_17_2 hR, ar_26, ln_26, rt_in_nI, Option.isSome_some, Option.getD_some, Bool.or_true, Bool.true_or]; done) | fail) only [e_X5_upshotOf_0, e_X5_upshotOf_1, e_X5_upshotOf_4, e_X5_upshotOf_40, e_X5_upshotOf_41, e_X5_upshotOf_44, e_X5_upshotOf_46, e_X5_upshotOf_47, e_X5_upshotOf_48, e_X5_upshotOf_51, e_X5_upshotOf_52, e_X5_upshotOf_53, e_X5_upshotOf_54, e_X5_upshotOf_55, e_X5_upshotOf_58, e_X5_upshotOf_59, e_X5_upshotOf_60, e_X5_upshotOf_63, e_X5_upshotOf_66, e_X5_upshotOf_67, e_X5_upshotOf_68, e_X5_upshotOf_69, e_X5_upshotOf_72, e_X5_upshotOf_75, e_X5_upshotOf_76, e_X4_verb_0, e_X4_verb_1, e_X4_verb_4, hv', h8, h9, if_true, Option.getD_some, Option.bind_some, Option.toList_some, Option.toList_none, List.cons_append, List.nil_append]
    simp
  · have hv' : I 17 4 = 12 := hv
    have d1 : ((12 : Int32) = 11) = False := by decide
    simp (disch := first | exact rt_bo_0 | exact rt_bo_1 | exact ns_float | exact ns_int | exact ns_ref | assumption | omega | (simp (disch := omega) only [ob_27, rg_27_0 hR, rg_27_1 hR, rg_27_2 hR, rg_27_3 hR, ar_28, ln_28, rg_27_4 hR, ar_29, ln_29, rg_27_5 hR, ar_30, ln_30, ob_1, rg_1_0 hR, ar_2, ln_2, rg_1_1 hR, ar_3, ln_3, rg_1_2 hR, ar_4, ln_4, rg_1_3 hR, ar_5, ln_5, rg_1_4 hR, ar_6, ln_6, ob_17, rg_17_0 hR, rg_17_1 hR, rg_17_2 hR, ar_26, ln_26, rt_in_nI, Option.isSome_some, Option.getD_some, Bool.or_true, Bool.true_or]; done) | fail) only [e_X5_upshotOf_0, e_X5_upshotOf_1, e_X5_upshotOf_4, e_X5_upshotOf_40, e_X5_upshotOf_41, e_X5_upshotOf_44, e_X5_upshotOf_46, e_X5_upshotOf_47, e_X5_upshotOf_48, e_X5_upshotOf_51, e_X5_upshotOf_52, e_X5_upshotOf_53, e_X5_upshotOf_54, e_X5_upshotOf_55, e_X5_upshotOf_58, e_X5_upshotOf_59, e_X5_upshotOf_60, e_X5_upshotOf_63, e_X5_upshotOf_66, e_X5_upshotOf_67, e_X5_upshotOf_68, e_X5_upshotOf_69, e_X5_upshotOf_72, e_X5_upshotOf_75, e_X5_upshotOf_76, e_X4_verb_0, e_X4_verb_1, e_X4_verb_4, hv', d1, h8, h9, if_true, if_false, Option.getD_some, Option.bind_some, Option.toList_some, Option.toList_none, List.cons_append, List.nil_append]
    simp
  · have hv' : I 17 4 = 13 := hv
    have d1 : ((13 : Int32) = 11) = False ∧ ((13 : Int32) = 12) = False ∧ ((13 : Int32) = 19) = False ∧ ((13 : Int32) = 14) = False ∧ ((13 : Int32) = 15) = False ∧ ((13 : Int32) = 16) = False := by decide
    simp (disch := first | exact rt_bo_0 | exact rt_bo_1 | exact ns_float | exact ns_int | exact ns_ref | assumption | omega | (simp (disch := omega) only [ob_27, rg_27_0 hR, rg_27_1 hR, rg_27_2 hR, rg_27_3 hR, ar_28, ln_28, rg_27_4 hR, ar_29, ln_29, rg_27_5 hR, ar_30, ln_30, ob_1, rg_1_0 hR, ar_2, ln_2, rg_1_1 hR, ar_3, ln_3, rg_1_2 hR, ar_4, ln_4, rg_1_3 hR, ar_5, ln_5, rg_1_4 hR, ar_6, ln_6, ob_17, rg_17_0 hR, rg_17_1 hR, rg_17_2 hR, ar_26, ln_26, rt_in_nI, Option.isSome_some, Option.getD_some, Bool.or_true, Bool.true_or]; done) | fail) only [e_X5_upshotOf_0, e_X5_upshotOf_1, e_X5_upshotOf_4, e_X5_upshotOf_40, e_X5_upshotOf_41, e_X5_upshotOf_44, e_X5_upshotOf_46, e_X5_upshotOf_47, e_X5_upshotOf_48, e_X5_upshotOf_51, e_X5_upshotOf_52, e_X5_upshotOf_53, e_X5_upshotOf_54, e_X5_upshotOf_55, e_X5_upshotOf_58, e_X5_upshotOf_59, e_X5_upshotOf_60, e_X5_upshotOf_63, e_X5_upshotOf_66, e_X5_upshotOf_67, e_X5_upshotOf_68, e_X5_upshotOf_69, e_X5_upshotOf_72, e_X5_upshotOf_75, e_X5_upshotOf_76, e_X4_verb_0, e_X4_verb_1, e_X4_verb_4, e_X4_isAsked_0, e_X4_isAsked_1, e_X4_isAsked_4, e_X4_isAsked_6, e_X4_isAsked_9, e_X4_isAsked_10, e_X4_isAsked_13, e_X4_isAsked_15, e_X4_isAsked_18, e_X4_isAsked_19, e_X4_isAsked_22, e_X4_isAsked_24, e_X4_isAsked_27, e_X4_isAsked_28, e_X4_isAsked_31, e_X4_isAsked_32, hv', d1.1, d1.2.1, d1.2.2.1, d1.2.2.2.1, d1.2.2.2.2.1, d1.2.2.2.2.2, q_00, if_true, if_false, Option.getD_some, Option.bind_some, Option.toList_some, Option.toList_none, List.cons_append, List.nil_append]
    simp
  · have hv' : I 17 4 = 14 := hv
    have d1 : ((14 : Int32) = 11) = False ∧ ((14 : Int32) = 12) = False ∧ ((14 : Int32) = 19) = False := by decide
    simp (disch := first | exact rt_bo_0 | exact rt_bo_1 | exact ns_float | exact ns_int | exact ns_ref | assumption | omega | (simp (disch := omega) only [ob_27, rg_27_0 hR, rg_27_1 hR, rg_27_2 hR, rg_27_3 hR, ar_28, ln_28, rg_27_4 hR, ar_29, ln_29, rg_27_5 hR, ar_30, ln_30, ob_1, rg_1_0 hR, ar_2, ln_2, rg_1_1 hR, ar_3, ln_3, rg_1_2 hR, ar_4, ln_4, rg_1_3 hR, ar_5, ln_5, rg_1_4 hR, ar_6, ln_6, ob_17, rg_17_0 hR, rg_17_1 hR, rg_17_2 hR, ar_26, ln_26, rt_in_nI, Option.isSome_some, Option.getD_some, Bool.or_true, Bool.true_or]; done) | fail) only [e_X5_upshotOf_0, e_X5_upshotOf_1, e_X5_upshotOf_4, e_X5_upshotOf_40, e_X5_upshotOf_41, e_X5_upshotOf_44, e_X5_upshotOf_46, e_X5_upshotOf_47, e_X5_upshotOf_48, e_X5_upshotOf_51, e_X5_upshotOf_52, e_X5_upshotOf_53, e_X5_upshotOf_54, e_X5_upshotOf_55, e_X5_upshotOf_58, e_X5_upshotOf_59, e_X5_upshotOf_60, e_X5_upshotOf_63, e_X5_upshotOf_66, e_X5_upshotOf_67, e_X5_upshotOf_68, e_X5_upshotOf_69, e_X5_upshotOf_72, e_X5_upshotOf_75, e_X5_upshotOf_76, e_X4_verb_0, e_X4_verb_1, e_X4_verb_4, e_X4_isAsked_0, e_X4_isAsked_1, e_X4_isAsked_4, e_X4_isAsked_6, e_X4_isAsked_9, e_X4_isAsked_10, e_X4_isAsked_13, e_X4_isAsked_15, e_X4_isAsked_18, e_X4_isAsked_19, e_X4_isAsked_22, e_X4_isAsked_24, e_X4_isAsked_27, e_X4_isAsked_28, e_X4_isAsked_31, e_X4_isAsked_32, hv', d1.1, d1.2.1, d1.2.2, q_10, x_ans h hy hF hr hm (Or.inl rfl), if_true, if_false, Option.getD_some, Option.bind_some, Option.toList_some, Option.toList_none, List.cons_append, List.nil_append]
    simp
  · have hv' : I 17 4 = 15 := hv
    have d1 : ((15 : Int32) = 11) = False ∧ ((15 : Int32) = 12) = False ∧ ((15 : Int32) = 19) = False ∧ ((15 : Int32) = 14) = False := by decide
    simp (disch := first | exact rt_bo_0 | exact rt_bo_1 | exact ns_float | exact ns_int | exact ns_ref | assumption | omega | (simp (disch := omega) only [ob_27, rg_27_0 hR, rg_27_1 hR, rg_27_2 hR, rg_27_3 hR, ar_28, ln_28, rg_27_4 hR, ar_29, ln_29, rg_27_5 hR, ar_30, ln_30, ob_1, rg_1_0 hR, ar_2, ln_2, rg_1_1 hR, ar_3, ln_3, rg_1_2 hR, ar_4, ln_4, rg_1_3 hR, ar_5, ln_5, rg_1_4 hR, ar_6, ln_6, ob_17, rg_17_0 hR, rg_17_1 hR, rg_17_2 hR, ar_26, ln_26, rt_in_nI, Option.isSome_some, Option.getD_some, Bool.or_true, Bool.true_or]; done) | fail) only [e_X5_upshotOf_0, e_X5_upshotOf_1, e_X5_upshotOf_4, e_X5_upshotOf_40, e_X5_upshotOf_41, e_X5_upshotOf_44, e_X5_upshotOf_46, e_X5_upshotOf_47, e_X5_upshotOf_48, e_X5_upshotOf_51, e_X5_upshotOf_52, e_X5_upshotOf_53, e_X5_upshotOf_54, e_X5_upshotOf_55, e_X5_upshotOf_58, e_X5_upshotOf_59, e_X5_upshotOf_60, e_X5_upshotOf_63, e_X5_upshotOf_66, e_X5_upshotOf_67, e_X5_upshotOf_68, e_X5_upshotOf_69, e_X5_upshotOf_72, e_X5_upshotOf_75, e_X5_upshotOf_76, e_X4_verb_0, e_X4_verb_1, e_X4_verb_4, e_X4_isAsked_0, e_X4_isAsked_1, e_X4_isAsked_4, e_X4_isAsked_6, e_X4_isAsked_9, e_X4_isAsked_10, e_X4_isAsked_13, e_X4_isAsked_15, e_X4_isAsked_18, e_X4_isAsked_19, e_X4_isAsked_22, e_X4_isAsked_24, e_X4_isAsked_27, e_X4_isAsked_28, e_X4_isAsked_31, e_X4_isAsked_32, hv', d1.1, d1.2.1, d1.2.2.1, d1.2.2.2, q_10, x_ans h hy hF hr hm (Or.inr (Or.inl rfl)), if_true, if_false, Option.getD_some, Option.bind_some, Option.toList_some, Option.toList_none, List.cons_append, List.nil_append]
    simp
  · have hv' : I 17 4 = 16 := hv
    have d1 : ((16 : Int32) = 11) = False ∧ ((16 : Int32) = 12) = False ∧ ((16 : Int32) = 19) = False ∧ ((16 : Int32) = 14) = False ∧ ((16 : Int32) = 15) = False := by decide
    simp (disch := first | exact rt_bo_0 | exact rt_bo_1 | exact ns_float | exact ns_int | exact ns_ref | assumption | omega | (simp (disch := omega) only [ob_27, rg_27_0 hR, rg_27_1 hR, rg_27_2 hR, rg_27_3 hR, ar_28, ln_28, rg_27_4 hR, ar_29, ln_29, rg_27_5 hR, ar_30, ln_30, ob_1, rg_1_0 hR, ar_2, ln_2, rg_1_1 hR, ar_3, ln_3, rg_1_2 hR, ar_4, ln_4, rg_1_3 hR, ar_5, ln_5, rg_1_4 hR, ar_6, ln_6, ob_17, rg_17_0 hR, rg_17_1 hR, rg_17_2 hR, ar_26, ln_26, rt_in_nI, Option.isSome_some, Option.getD_some, Bool.or_true, Bool.true_or]; done) | fail) only [e_X5_upshotOf_0, e_X5_upshotOf_1, e_X5_upshotOf_4, e_X5_upshotOf_40, e_X5_upshotOf_41, e_X5_upshotOf_44, e_X5_upshotOf_46, e_X5_upshotOf_47, e_X5_upshotOf_48, e_X5_upshotOf_51, e_X5_upshotOf_52, e_X5_upshotOf_53, e_X5_upshotOf_54, e_X5_upshotOf_55, e_X5_upshotOf_58, e_X5_upshotOf_59, e_X5_upshotOf_60, e_X5_upshotOf_63, e_X5_upshotOf_66, e_X5_upshotOf_67, e_X5_upshotOf_68, e_X5_upshotOf_69, e_X5_upshotOf_72, e_X5_upshotOf_75, e_X5_upshotOf_76, e_X4_verb_0, e_X4_verb_1, e_X4_verb_4, e_X4_isAsked_0, e_X4_isAsked_1, e_X4_isAsked_4, e_X4_isAsked_6, e_X4_isAsked_9, e_X4_isAsked_10, e_X4_isAsked_13, e_X4_isAsked_15, e_X4_isAsked_18, e_X4_isAsked_19, e_X4_isAsked_22, e_X4_isAsked_24, e_X4_isAsked_27, e_X4_isAsked_28, e_X4_isAsked_31, e_X4_isAsked_32, hv', d1.1, d1.2.1, d1.2.2.1, d1.2.2.2.1, d1.2.2.2.2, q_10, x_ans h hy hF hr hm (Or.inr (Or.inr rfl)), if_true, if_false, Option.getD_some, Option.bind_some, Option.toList_some, Option.toList_none, List.cons_append, List.nil_append]
    simp
  · have hv' : I 17 4 = 17 := hv
    have d1 : ((17 : Int32) = 11) = False ∧ ((17 : Int32) = 12) = False ∧ ((17 : Int32) = 19) = False ∧ ((17 : Int32) = 14) = False ∧ ((17 : Int32) = 15) = False ∧ ((17 : Int32) = 16) = False := by decide
    simp (disch := first | exact rt_bo_0 | exact rt_bo_1 | exact ns_float | exact ns_int | exact ns_ref | assumption | omega | (simp (disch := omega) only [ob_27, rg_27_0 hR, rg_27_1 hR, rg_27_2 hR, rg_27_3 hR, ar_28, ln_28, rg_27_4 hR, ar_29, ln_29, rg_27_5 hR, ar_30, ln_30, ob_1, rg_1_0 hR, ar_2, ln_2, rg_1_1 hR, ar_3, ln_3, rg_1_2 hR, ar_4, ln_4, rg_1_3 hR, ar_5, ln_5, rg_1_4 hR, ar_6, ln_6, ob_17, rg_17_0 hR, rg_17_1 hR, rg_17_2 hR, ar_26, ln_26, rt_in_nI, Option.isSome_some, Option.getD_some, Bool.or_true, Bool.true_or]; done) | fail) only [e_X5_upshotOf_0, e_X5_upshotOf_1, e_X5_upshotOf_4, e_X5_upshotOf_40, e_X5_upshotOf_41, e_X5_upshotOf_44, e_X5_upshotOf_46, e_X5_upshotOf_47, e_X5_upshotOf_48, e_X5_upshotOf_51, e_X5_upshotOf_52, e_X5_upshotOf_53, e_X5_upshotOf_54, e_X5_upshotOf_55, e_X5_upshotOf_58, e_X5_upshotOf_59, e_X5_upshotOf_60, e_X5_upshotOf_63, e_X5_upshotOf_66, e_X5_upshotOf_67, e_X5_upshotOf_68, e_X5_upshotOf_69, e_X5_upshotOf_72, e_X5_upshotOf_75, e_X5_upshotOf_76, e_X4_verb_0, e_X4_verb_1, e_X4_verb_4, e_X4_isAsked_0, e_X4_isAsked_1, e_X4_isAsked_4, e_X4_isAsked_6, e_X4_isAsked_9, e_X4_isAsked_10, e_X4_isAsked_13, e_X4_isAsked_15, e_X4_isAsked_18, e_X4_isAsked_19, e_X4_isAsked_22, e_X4_isAsked_24, e_X4_isAsked_27, e_X4_isAsked_28, e_X4_isAsked_31, e_X4_isAsked_32, hv', d1.1, d1.2.1, d1.2.2.1, d1.2.2.2.1, d1.2.2.2.2.1, d1.2.2.2.2.2, q_00, if_true, if_false, Option.getD_some, Option.bind_some, Option.toList_some, Option.toList_none, List.cons_append, List.nil_append]
    simp
  · have hv' : I 17 4 = 19 := hv
    have d1 : ((19 : Int32) = 11) = False ∧ ((19 : Int32) = 12) = False := by decide
    rw [hm 0 (hF.2.1 (by omega))] at hme
    simp (disch := first | exact rt_bo_0 | exact rt_bo_1 | exact ns_float | exact ns_int | exact ns_ref | assumption | omega | (simp (disch := omega) only [ob_27, rg_27_0 hR, rg_27_1 hR, rg_27_2 hR, rg_27_3 hR, ar_28, ln_28, rg_27_4 hR, ar_29, ln_29, rg_27_5 hR, ar_30, ln_30, ob_1, rg_1_0 hR, ar_2, ln_2, rg_1_1 hR, ar_3, ln_3, rg_1_2 hR, ar_4, ln_4, rg_1_3 hR, ar_5, ln_5, rg_1_4 hR, ar_6, ln_6, ob_17, rg_17_0 hR, rg_17_1 hR, rg_17_2 hR, ar_26, ln_26, rt_in_nI, Option.isSome_some, Option.getD_some, Bool.or_true, Bool.true_or]; done) | fail) only [e_X5_upshotOf_0, e_X5_upshotOf_1, e_X5_upshotOf_4, e_X5_upshotOf_40, e_X5_upshotOf_41, e_X5_upshotOf_44, e_X5_upshotOf_46, e_X5_upshotOf_47, e_X5_upshotOf_48, e_X5_upshotOf_51, e_X5_upshotOf_52, e_X5_upshotOf_53, e_X5_upshotOf_54, e_X5_upshotOf_55, e_X5_upshotOf_58, e_X5_upshotOf_59, e_X5_upshotOf_60, e_X5_upshotOf_63, e_X5_upshotOf_66, e_X5_upshotOf_67, e_X5_upshotOf_68, e_X5_upshotOf_69, e_X5_upshotOf_72, e_X5_upshotOf_75, e_X5_upshotOf_76, e_X4_verb_0, e_X4_verb_1, e_X4_verb_4, hv', d1.1, d1.2, hme, if_true, if_false, Option.getD_some, Option.bind_some, Option.toList_some, Option.toList_none, List.cons_append, List.nil_append]
    simp
  · have hv' : I 17 4 = 19 := hv
    have d1 : ((19 : Int32) = 11) = False ∧ ((19 : Int32) = 12) = False := by decide
    rw [hm 0 (hF.2.1 (by omega))] at hme
    simp (disch := first | exact rt_bo_0 | exact rt_bo_1 | exact ns_float | exact ns_int | exact ns_ref | assumption | omega | (simp (disch := omega) only [ob_27, rg_27_0 hR, rg_27_1 hR, rg_27_2 hR, rg_27_3 hR, ar_28, ln_28, rg_27_4 hR, ar_29, ln_29, rg_27_5 hR, ar_30, ln_30, ob_1, rg_1_0 hR, ar_2, ln_2, rg_1_1 hR, ar_3, ln_3, rg_1_2 hR, ar_4, ln_4, rg_1_3 hR, ar_5, ln_5, rg_1_4 hR, ar_6, ln_6, ob_17, rg_17_0 hR, rg_17_1 hR, rg_17_2 hR, ar_26, ln_26, rt_in_nI, Option.isSome_some, Option.getD_some, Bool.or_true, Bool.true_or]; done) | fail) only [e_X5_upshotOf_0, e_X5_upshotOf_1, e_X5_upshotOf_4, e_X5_upshotOf_40, e_X5_upshotOf_41, e_X5_upshotOf_44, e_X5_upshotOf_46, e_X5_upshotOf_47, e_X5_upshotOf_48, e_X5_upshotOf_51, e_X5_upshotOf_52, e_X5_upshotOf_53, e_X5_upshotOf_54, e_X5_upshotOf_55, e_X5_upshotOf_58, e_X5_upshotOf_59, e_X5_upshotOf_60, e_X5_upshotOf_63, e_X5_upshotOf_66, e_X5_upshotOf_67, e_X5_upshotOf_68, e_X5_upshotOf_69, e_X5_upshotOf_72, e_X5_upshotOf_75, e_X5_upshotOf_76, e_X4_verb_0, e_X4_verb_1, e_X4_verb_4, hv', d1.1, d1.2, hme, if_true, if_false, Option.getD_some, Option.bind_some, Option.toList_some, Option.toList_none, List.cons_append, List.nil_append]
    simp
end P28

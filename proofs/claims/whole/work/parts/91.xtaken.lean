/-- the reading taken: r and on, f being the first that fits -/
def chl (fit : Nat → Prop) [DecidablePred fit] (up : Nat → Int32) : Nat → Nat → Option Nat → Int32
  | 0, _, none => -3
  | 0, _, some r0 => nI r0
  | g + 1, r, none => if fit r then chl fit up g (r + 1) (some r) else chl fit up g (r + 1) none
  | g + 1, r, some r0 => if fit r then (if up r = up r0 then chl fit up g (r + 1) (some r0) else -2) else chl fit up g (r + 1) (some r0)
section P29
variable {e : Nat} {I I2 : Nat → Nat → Int32} {L : Nat → Nat → Int64} {R : Nat → Nat → Option Nat} {a b T j n k p i nw s r NR fm : Nat} {x : Int32} {q : PhT} {tp : Nat → PhT} {td dg : Nat → Nat → Nat} {to_ : Nat → Option Nat} {it th one ln : Option Nat} {dn : Bool} {al : Nat → Nat → Bool}
def oF : Option Nat → Int32
  | none => -3
  | some r => nI r
theorem x_choose_l {J : Nat → Nat → Int32} (h : SX e J R a b T nw tp td to_ it th) (hy : YX J a T q NR dg nw ln fm dn) (hF : YF q NR dg fm dn) (hal : ∀ k, k < pP q → J 28 k = bs (al k) T) :
    ∀ (g r : Nat) (f : Option Nat) (u : Int32) (I : Nat → Nat → Int32) (v : Value), r + g = NR → (∀ c, c ≠ 27 → c ≠ 29 → I c = J c) → (∀ r0, f = some r0 → r0 < NR ∧ u = upX T (J 2) (J 5) q fm dn (mng T (J 2) (J 5) q (dg r0) al) (dg r0) ∧ trk T (J 2) (J 5) q fm dn (mng T (J 2) (J 5) q (dg r0) al) (dg r0) 0 (pP q) = 0) → rt_ns v = true →
    ∃ I2, Ev mX5_choose 27 [.ref 27, .ref 17, .int (oF f), .int u, .int (nI r), v] [] (71 + e, I, L, R) = some (some (.int (chl (fun r => trk T (J 2) (J 5) q fm dn (mng T (J 2) (J 5) q (dg r) al) (dg r) 0 (pP q) = 0) (fun r => upX T (J 2) (J 5) q fm dn (mng T (J 2) (J 5) q (dg r) al) (dg r)) g r f)), (71 + e, I2, L, R)) ∧ (∀ c, c ≠ 27 → c ≠ 29 → I2 c = J c) ∧
      ∀ r0, r0 < NR → chl (fun r => trk T (J 2) (J 5) q fm dn (mng T (J 2) (J 5) q (dg r) al) (dg r) 0 (pP q) = 0) (fun r => upX T (J 2) (J 5) q fm dn (mng T (J 2) (J 5) q (dg r) al) (dg r)) g r f = nI r0 → trk T (J 2) (J 5) q fm dn (mng T (J 2) (J 5) q (dg r0) al) (dg r0) 0 (pP q) = 0 ∧ (∀ j, j < pP q → I2 29 j = bs (mng T (J 2) (J 5) q (dg r0) al j) T) ∧ I2 27 8 = mvv T (J 2) fm (mng T (J 2) (J 5) q (dg r0) al) ∧ I2 27 9 = glv T (J 2) (J 5) q fm dn (mng T (J 2) (J 5) q (dg r0) al) (dg r0) := by
  have hR := h.1
  have hNR := hy.2.2.1
  have m3 : ∀ r0, r0 < 264 → (nI r0 = -3) = False := by
    intro r0 h0
    refine eq_false fun hh => ?_
    have h1 := congrArg Int32.toInt hh
    rw [nI_toInt (by omega)] at h1
    have h2 : (-3 : Int32).toInt = -3 := by decide
    rw [h2] at h1
    omega
  have m2 : ∀ r0, r0 < 264 → ¬ (-2 : Int32) = nI r0 := by
    intro r0 h0 hh
    have h1 := congrArg Int32.toInt hh
    rw [nI_toInt (by omega)] at h1
    have h2 : (-2 : Int32).toInt = -2 := by decide
    rw [h2] at h1
    omega
  intro g
  induction g with
  | zero =>
    intro r f u I v hr hf hu hv
    have c : NR ≤ r := by omega
    have hsI : SX e I R a b T nw tp td to_ it th := SX_fr h (fun c hc => hf c (by omega) (by omega))
    have hyI : YX I a T q NR dg nw ln fm dn := YX_fr hy (fun c hc => hf c (by omega) (by omega))
    have h2 := hyI.2.1
    cases f with
    | none =>
      refine ⟨I, ?_, hf, fun r0 h1 h2 => ?_⟩
      · rw [e_X5_choose_27]
        simp (disch := first | exact rt_bo_0 | exact rt_bo_1 | exact ns_float | exact ns_int | exact ns_ref | assumption | omega | (simp (disch := omega) only [ob_27, rg_27_0 hR, rg_27_1 hR, rg_27_2 hR, rg_27_3 hR, ar_28, ln_28, rg_27_4 hR, ar_29, ln_29, rg_27_5 hR, ar_30, ln_30, ob_17, rg_17_0 hR, rg_17_1 hR, rg_17_2 hR, ar_26, ln_26, ob_23, rg_23_0 hR, rg_23_1 hR, rt_in_nI, Option.isSome_some, Option.getD_some, Bool.or_true, Bool.true_or]; done) | fail) only [e_X5_choose_0, e_X5_choose_1, e_X5_choose_4, e_X5_choose_5, e_X5_choose_6, e_X5_choose_9, e_X5_choose_10, e_X5_choose_13, e_X5_choose_16, e_X5_choose_19, e_X5_choose_21, e_X5_choose_22, e_X5_choose_23, e_X5_choose_24, e_X5_choose_25, e_X5_choose_29, e_X5_choose_30, e_X5_choose_33, e_X5_choose_36, e_X5_choose_39, e_X5_choose_40, e_X5_choose_41, e_X5_choose_43, e_X5_choose_46, e_X5_choose_47, e_X5_choose_50, e_X5_choose_53, e_X5_choose_54, e_X5_choose_55, e_X5_choose_57, e_X5_choose_60, e_X5_choose_62, e_X5_choose_63, e_X5_choose_65, e_X5_choose_68, e_X5_choose_70, e_X5_choose_71, e_X5_choose_74, e_X5_choose_76, e_X5_choose_77, e_X5_choose_78, e_X5_choose_80, e_X5_choose_83, e_X5_choose_85, e_X5_choose_86, e_X5_choose_88, e_X5_choose_89, e_X5_choose_92, e_X5_choose_95, e_X5_choose_96, e_X5_choose_98, e_X5_choose_101, e_X5_choose_102, e_X5_choose_103, e_X5_choose_104, e_X5_choose_107, e_X5_choose_108, e_X2_size_0, e_X2_size_1, e_X2_size_4, rg_17_1 hR, h2, q_le, c, oF, chl, if_true, Option.getD_some, Option.bind_some, Option.toList_some, Option.toList_none, List.cons_append, List.nil_append]
      · exact absurd h2.symm (by rw [show chl (fun r => trk T (J 2) (J 5) q fm dn (mng T (J 2) (J 5) q (dg r) al) (dg r) 0 (pP q) = 0) (fun r => upX T (J 2) (J 5) q fm dn (mng T (J 2) (J 5) q (dg r) al) (dg r)) 0 r none = -3 from rfl, m3 r0 (by omega)]; exact id)
    | some r1 =>
      obtain ⟨u1, u2, u3⟩ := hu r1 rfl
      obtain ⟨I2, hE, w1, w2, w3, w4, w5⟩ := x_weigh (L := L) hsI hyI hF u1 (al := al) (fun k hk => by rw [hf 28 (by omega) (by omega)]; exact hal k hk)
      rw [hf 2 (by omega) (by omega), hf 5 (by omega) (by omega)] at w2 w5
      refine ⟨I2, ?_, fun c h1 h2 => by rw [w1 c h1 h2, hf c h1 h2], fun r0 h1 h2 => ?_⟩
      · rw [e_X5_choose_27]
        simp (disch := first | exact rt_bo_0 | exact rt_bo_1 | exact ns_float | exact ns_int | exact ns_ref | assumption | omega | (simp (disch := omega) only [ob_27, rg_27_0 hR, rg_27_1 hR, rg_27_2 hR, rg_27_3 hR, ar_28, ln_28, rg_27_4 hR, ar_29, ln_29, rg_27_5 hR, ar_30, ln_30, ob_17, rg_17_0 hR, rg_17_1 hR, rg_17_2 hR, ar_26, ln_26, ob_23, rg_23_0 hR, rg_23_1 hR, rt_in_nI, Option.isSome_some, Option.getD_some, Bool.or_true, Bool.true_or]; done) | fail) only [e_X5_choose_0, e_X5_choose_1, e_X5_choose_4, e_X5_choose_5, e_X5_choose_6, e_X5_choose_9, e_X5_choose_10, e_X5_choose_13, e_X5_choose_16, e_X5_choose_19, e_X5_choose_21, e_X5_choose_22, e_X5_choose_23, e_X5_choose_24, e_X5_choose_25, e_X5_choose_29, e_X5_choose_30, e_X5_choose_33, e_X5_choose_36, e_X5_choose_39, e_X5_choose_40, e_X5_choose_41, e_X5_choose_43, e_X5_choose_46, e_X5_choose_47, e_X5_choose_50, e_X5_choose_53, e_X5_choose_54, e_X5_choose_55, e_X5_choose_57, e_X5_choose_60, e_X5_choose_62, e_X5_choose_63, e_X5_choose_65, e_X5_choose_68, e_X5_choose_70, e_X5_choose_71, e_X5_choose_74, e_X5_choose_76, e_X5_choose_77, e_X5_choose_78, e_X5_choose_80, e_X5_choose_83, e_X5_choose_85, e_X5_choose_86, e_X5_choose_88, e_X5_choose_89, e_X5_choose_92, e_X5_choose_95, e_X5_choose_96, e_X5_choose_98, e_X5_choose_101, e_X5_choose_102, e_X5_choose_103, e_X5_choose_104, e_X5_choose_107, e_X5_choose_108, e_X2_size_0, e_X2_size_1, e_X2_size_4, rg_17_1 hR, h2, q_le, c, oF, chl, m3 r1 (by omega), hE, if_true, if_false, Option.getD_some, Option.bind_some, Option.toList_some, Option.toList_none, List.cons_append, List.nil_append]
      · have e1 : nI r1 = nI r0 := h2
        rw [q_eq (by omega) (by omega)] at e1
        subst e1
        exact ⟨u3, w2, (w5 u3).1, (w5 u3).2⟩
  | succ g ih =>
    intro r f u I v hr hf hu hv
    have c : ¬ NR ≤ r := by omega
    have hrN : r < NR := by omega
    have hsI : SX e I R a b T nw tp td to_ it th := SX_fr h (fun c hc => hf c (by omega) (by omega))
    have hyI : YX I a T q NR dg nw ln fm dn := YX_fr hy (fun c hc => hf c (by omega) (by omega))
    have h2 := hyI.2.1
    obtain ⟨I1, hE, w1, w2, w3, w4, w5⟩ := x_weigh (L := L) hsI hyI hF hrN (al := al) (fun k hk => by rw [hf 28 (by omega) (by omega)]; exact hal k hk)
    rw [hf 2 (by omega) (by omega), hf 5 (by omega) (by omega)] at w2 w3 w5
    have hf1 : ∀ c, c ≠ 27 → c ≠ 29 → I1 c = J c := fun c h1 h2 => by rw [w1 c h1 h2, hf c h1 h2]
    have hs1 : SX e I1 R a b T nw tp td to_ it th := SX_fr h (fun c hc => hf1 c (by omega) (by omega))
    have hy1 : YX I1 a T q NR dg nw ln fm dn := YX_fr hy (fun c hc => hf1 c (by omega) (by omega))
    rw [e_X5_choose_27]
    by_cases ht : trk T (J 2) (J 5) q fm dn (mng T (J 2) (J 5) q (dg r) al) (dg r) 0 (pP q) = 0
    · obtain ⟨w8, w9⟩ := w5 ht
      have hup := x_ups (L := L) hs1 hy1 hF hrN w2 (by rw [hf1 2 (by omega) (by omega)]; exact w8) (by rw [hf1 2 (by omega) (by omega), hf1 5 (by omega) (by omega)]; exact w9)
      rw [hf1 2 (by omega) (by omega), hf1 5 (by omega) (by omega)] at hup
      cases f with
      | none =>
        obtain ⟨I2, hE2, v1, v2⟩ := ih (r + 1) (some r) _ I1 (.int (upX T (J 2) (J 5) q fm dn (mng T (J 2) (J 5) q (dg r) al) (dg r))) (by omega) hf1 (fun r0 h0 => by cases h0; exact ⟨hrN, rfl, ht⟩) rfl
        refine ⟨I2, ?_, v1, ?_⟩
        · simp (disch := first | exact rt_bo_0 | exact rt_bo_1 | exact ns_float | exact ns_int | exact ns_ref | assumption | omega | (simp (disch := omega) only [ob_27, rg_27_0 hR, rg_27_1 hR, rg_27_2 hR, rg_27_3 hR, ar_28, ln_28, rg_27_4 hR, ar_29, ln_29, rg_27_5 hR, ar_30, ln_30, ob_17, rg_17_0 hR, rg_17_1 hR, rg_17_2 hR, ar_26, ln_26, ob_23, rg_23_0 hR, rg_23_1 hR, rt_in_nI, Option.isSome_some, Option.getD_some, Bool.or_true, Bool.true_or]; done) | fail) only [e_X5_choose_0, e_X5_choose_1, e_X5_choose_4, e_X5_choose_5, e_X5_choose_6, e_X5_choose_9, e_X5_choose_10, e_X5_choose_13, e_X5_choose_16, e_X5_choose_19, e_X5_choose_21, e_X5_choose_22, e_X5_choose_23, e_X5_choose_24, e_X5_choose_25, e_X5_choose_29, e_X5_choose_30, e_X5_choose_33, e_X5_choose_36, e_X5_choose_39, e_X5_choose_40, e_X5_choose_41, e_X5_choose_43, e_X5_choose_46, e_X5_choose_47, e_X5_choose_50, e_X5_choose_53, e_X5_choose_54, e_X5_choose_55, e_X5_choose_57, e_X5_choose_60, e_X5_choose_62, e_X5_choose_63, e_X5_choose_65, e_X5_choose_68, e_X5_choose_70, e_X5_choose_71, e_X5_choose_74, e_X5_choose_76, e_X5_choose_77, e_X5_choose_78, e_X5_choose_80, e_X5_choose_83, e_X5_choose_85, e_X5_choose_86, e_X5_choose_88, e_X5_choose_89, e_X5_choose_92, e_X5_choose_95, e_X5_choose_96, e_X5_choose_98, e_X5_choose_101, e_X5_choose_102, e_X5_choose_103, e_X5_choose_104, e_X5_choose_107, e_X5_choose_108, e_X2_size_0, e_X2_size_1, e_X2_size_4, rg_17_1 hR, h2, q_le, q_s, c, hE, w3, ht, hup, oF, chl, if_true, if_false, Option.getD_some, Option.bind_some, Option.toList_some, Option.toList_none, List.cons_append, List.nil_append]
          exact hE2
        · simp only [chl, if_pos ht]
          exact v2
      | some r1 =>
        obtain ⟨u1, u2, u3⟩ := hu r1 rfl
        by_cases hu2 : upX T (J 2) (J 5) q fm dn (mng T (J 2) (J 5) q (dg r) al) (dg r) = upX T (J 2) (J 5) q fm dn (mng T (J 2) (J 5) q (dg r1) al) (dg r1)
        · obtain ⟨I2, hE2, v1, v2⟩ := ih (r + 1) (some r1) u I1 (.int (upX T (J 2) (J 5) q fm dn (mng T (J 2) (J 5) q (dg r) al) (dg r))) (by omega) hf1 hu rfl
          refine ⟨I2, ?_, v1, ?_⟩
          · rw [u2] at hE2 ⊢
            rw [hu2] at hE2
            simp (disch := first | exact rt_bo_0 | exact rt_bo_1 | exact ns_float | exact ns_int | exact ns_ref | assumption | omega | (simp (disch := omega) only [ob_27, rg_27_0 hR, rg_27_1 hR, rg_27_2 hR, rg_27_3 hR, ar_28, ln_28, rg_27_4 hR, ar_29, ln_29, rg_27_5 hR, ar_30, ln_30, ob_17, rg_17_0 hR, rg_17_1 hR, rg_17_2 hR, ar_26, ln_26, ob_23, rg_23_0 hR, rg_23_1 hR, rt_in_nI, Option.isSome_some, Option.getD_some, Bool.or_true, Bool.true_or]; done) | fail) only [e_X5_choose_0, e_X5_choose_1, e_X5_choose_4, e_X5_choose_5, e_X5_choose_6, e_X5_choose_9, e_X5_choose_10, e_X5_choose_13, e_X5_choose_16, e_X5_choose_19, e_X5_choose_21, e_X5_choose_22, e_X5_choose_23, e_X5_choose_24, e_X5_choose_25, e_X5_choose_29, e_X5_choose_30, e_X5_choose_33, e_X5_choose_36, e_X5_choose_39, e_X5_choose_40, e_X5_choose_41, e_X5_choose_43, e_X5_choose_46, e_X5_choose_47, e_X5_choose_50, e_X5_choose_53, e_X5_choose_54, e_X5_choose_55, e_X5_choose_57, e_X5_choose_60, e_X5_choose_62, e_X5_choose_63, e_X5_choose_65, e_X5_choose_68, e_X5_choose_70, e_X5_choose_71, e_X5_choose_74, e_X5_choose_76, e_X5_choose_77, e_X5_choose_78, e_X5_choose_80, e_X5_choose_83, e_X5_choose_85, e_X5_choose_86, e_X5_choose_88, e_X5_choose_89, e_X5_choose_92, e_X5_choose_95, e_X5_choose_96, e_X5_choose_98, e_X5_choose_101, e_X5_choose_102, e_X5_choose_103, e_X5_choose_104, e_X5_choose_107, e_X5_choose_108, e_X2_size_0, e_X2_size_1, e_X2_size_4, rg_17_1 hR, h2, q_le, q_s, c, hE, w3, ht, hup, oF, chl, m3 r1 (by omega), hu2, if_true, if_false, Option.getD_some, Option.bind_some, Option.toList_some, Option.toList_none, List.cons_append, List.nil_append]
            exact hE2
          · simp only [chl, if_pos ht, if_pos hu2]
            exact v2
        · refine ⟨I1, ?_, hf1, ?_⟩
          · rw [u2]
            simp (disch := first | exact rt_bo_0 | exact rt_bo_1 | exact ns_float | exact ns_int | exact ns_ref | assumption | omega | (simp (disch := omega) only [ob_27, rg_27_0 hR, rg_27_1 hR, rg_27_2 hR, rg_27_3 hR, ar_28, ln_28, rg_27_4 hR, ar_29, ln_29, rg_27_5 hR, ar_30, ln_30, ob_17, rg_17_0 hR, rg_17_1 hR, rg_17_2 hR, ar_26, ln_26, ob_23, rg_23_0 hR, rg_23_1 hR, rt_in_nI, Option.isSome_some, Option.getD_some, Bool.or_true, Bool.true_or]; done) | fail) only [e_X5_choose_0, e_X5_choose_1, e_X5_choose_4, e_X5_choose_5, e_X5_choose_6, e_X5_choose_9, e_X5_choose_10, e_X5_choose_13, e_X5_choose_16, e_X5_choose_19, e_X5_choose_21, e_X5_choose_22, e_X5_choose_23, e_X5_choose_24, e_X5_choose_25, e_X5_choose_29, e_X5_choose_30, e_X5_choose_33, e_X5_choose_36, e_X5_choose_39, e_X5_choose_40, e_X5_choose_41, e_X5_choose_43, e_X5_choose_46, e_X5_choose_47, e_X5_choose_50, e_X5_choose_53, e_X5_choose_54, e_X5_choose_55, e_X5_choose_57, e_X5_choose_60, e_X5_choose_62, e_X5_choose_63, e_X5_choose_65, e_X5_choose_68, e_X5_choose_70, e_X5_choose_71, e_X5_choose_74, e_X5_choose_76, e_X5_choose_77, e_X5_choose_78, e_X5_choose_80, e_X5_choose_83, e_X5_choose_85, e_X5_choose_86, e_X5_choose_88, e_X5_choose_89, e_X5_choose_92, e_X5_choose_95, e_X5_choose_96, e_X5_choose_98, e_X5_choose_101, e_X5_choose_102, e_X5_choose_103, e_X5_choose_104, e_X5_choose_107, e_X5_choose_108, e_X2_size_0, e_X2_size_1, e_X2_size_4, rg_17_1 hR, h2, q_le, q_s, c, hE, w3, ht, hup, oF, chl, m3 r1 (by omega), hu2, if_true, if_false, Option.getD_some, Option.bind_some, Option.toList_some, Option.toList_none, List.cons_append, List.nil_append]
          · simp only [chl, if_pos ht, if_neg hu2]
            intro r0 h0 h1
            exact absurd h1 (m2 r0 (by omega))
    · obtain ⟨I2, hE2, v1, v2⟩ := ih (r + 1) f u I1 v (by omega) hf1 hu hv
      have hch : chl (fun r => trk T (J 2) (J 5) q fm dn (mng T (J 2) (J 5) q (dg r) al) (dg r) 0 (pP q) = 0) (fun r => upX T (J 2) (J 5) q fm dn (mng T (J 2) (J 5) q (dg r) al) (dg r)) (g + 1) r f = chl (fun r => trk T (J 2) (J 5) q fm dn (mng T (J 2) (J 5) q (dg r) al) (dg r) 0 (pP q) = 0) (fun r => upX T (J 2) (J 5) q fm dn (mng T (J 2) (J 5) q (dg r) al) (dg r)) g (r + 1) f := by
        cases f <;> simp only [chl, if_neg ht]
      rw [hch]
      refine ⟨I2, ?_, v1, v2⟩
      simp (disch := first | exact rt_bo_0 | exact rt_bo_1 | exact ns_float | exact ns_int | exact ns_ref | assumption | omega | (simp (disch := omega) only [ob_27, rg_27_0 hR, rg_27_1 hR, rg_27_2 hR, rg_27_3 hR, ar_28, ln_28, rg_27_4 hR, ar_29, ln_29, rg_27_5 hR, ar_30, ln_30, ob_17, rg_17_0 hR, rg_17_1 hR, rg_17_2 hR, ar_26, ln_26, ob_23, rg_23_0 hR, rg_23_1 hR, rt_in_nI, Option.isSome_some, Option.getD_some, Bool.or_true, Bool.true_or]; done) | fail) only [e_X5_choose_0, e_X5_choose_1, e_X5_choose_4, e_X5_choose_5, e_X5_choose_6, e_X5_choose_9, e_X5_choose_10, e_X5_choose_13, e_X5_choose_16, e_X5_choose_19, e_X5_choose_21, e_X5_choose_22, e_X5_choose_23, e_X5_choose_24, e_X5_choose_25, e_X5_choose_29, e_X5_choose_30, e_X5_choose_33, e_X5_choose_36, e_X5_choose_39, e_X5_choose_40, e_X5_choose_41, e_X5_choose_43, e_X5_choose_46, e_X5_choose_47, e_X5_choose_50, e_X5_choose_53, e_X5_choose_54, e_X5_choose_55, e_X5_choose_57, e_X5_choose_60, e_X5_choose_62, e_X5_choose_63, e_X5_choose_65, e_X5_choose_68, e_X5_choose_70, e_X5_choose_71, e_X5_choose_74, e_X5_choose_76, e_X5_choose_77, e_X5_choose_78, e_X5_choose_80, e_X5_choose_83, e_X5_choose_85, e_X5_choose_86, e_X5_choose_88, e_X5_choose_89, e_X5_choose_92, e_X5_choose_95, e_X5_choose_96, e_X5_choose_98, e_X5_choose_101, e_X5_choose_102, e_X5_choose_103, e_X5_choose_104, e_X5_choose_107, e_X5_choose_108, e_X2_size_0, e_X2_size_1, e_X2_size_4, rg_17_1 hR, h2, q_le, q_s, c, hE, w3, ht, if_true, if_false, Option.getD_some, Option.bind_some, Option.toList_some, Option.toList_none, List.cons_append, List.nil_append]
      exact hE2
/-- all that a saying's readings mean, by the class's rows or the reference's -/
def mnA (T : Nat) (so co si at_ : Nat → Int32) (tp : Nat → PhT) (td : Nat → Nat → Nat) (to_ : Nat → Option Nat) (it th : Option Nat) (nw : Nat) (ln : Option Nat) (q : PhT) (dg : Nat → Nat → Nat) (r : Nat) : Nat → Nat → Bool :=
  mnr T so co si at_ tp td to_ it th nw ln q (dg r)
def fitA (T : Nat) (so at_ : Nat → Int32) (q : PhT) (fm : Nat) (dn : Bool) (mn : Nat → Nat → Nat → Bool) (dg : Nat → Nat → Nat) (r : Nat) : Prop := trk T so at_ q fm dn (mn r) (dg r) 0 (pP q) = 0
noncomputable def chA (T : Nat) (so at_ : Nat → Int32) (q : PhT) (fm : Nat) (dn : Bool) (mn : Nat → Nat → Nat → Bool) (dg : Nat → Nat → Nat) (NR : Nat) : Int32 :=
  chl (fun r => trk T so at_ q fm dn (mn r) (dg r) 0 (pP q) = 0) (fun r => upX T so at_ q fm dn (mn r) (dg r)) NR 0 none
/-- choose: what it answers, and what it leaves -/
theorem x_choose (h : SX e I R a b T nw tp td to_ it th) (hy : YX I a T q NR dg nw ln fm dn) (hF : YF q NR dg fm dn) :
    ∃ I2, Ev mX5_choose 0 [.ref 27, .ref 17, .float 0, .float 0, .float 0, .float 0] [] (71 + e, I, L, R) = some (some (.int (chA T (I 2) (I 5) q fm dn (mnA T (I 2) (I 3) (I 4) (I 5) tp td to_ it th nw ln q dg) dg NR)), (71 + e, I2, L, R)) ∧ (∀ c, c < 27 ∨ 30 < c → I2 c = I c) ∧
      ∀ r0, r0 < NR → chA T (I 2) (I 5) q fm dn (mnA T (I 2) (I 3) (I 4) (I 5) tp td to_ it th nw ln q dg) dg NR = nI r0 → fitA T (I 2) (I 5) q fm dn (mnA T (I 2) (I 3) (I 4) (I 5) tp td to_ it th nw ln q dg) dg r0 ∧ (∀ j, j < pP q → I2 29 j = bs (mnA T (I 2) (I 3) (I 4) (I 5) tp td to_ it th nw ln q dg r0 j) T) ∧ I2 27 8 = mvv T (I 2) fm (mnA T (I 2) (I 3) (I 4) (I 5) tp td to_ it th nw ln q dg r0) ∧ I2 27 9 = glv T (I 2) (I 5) q fm dn (mnA T (I 2) (I 3) (I 4) (I 5) tp td to_ it th nw ln q dg r0) (dg r0) := by
  have hR := h.1
  obtain ⟨IA, hA1, hA2, hA3⟩ := x_ref (L := L) h
  have hsA : SX e IA R a b T nw tp td to_ it th := SX_fr h (fun c hc => hA2 c (by omega))
  have hyA : YX IA a T q NR dg nw ln fm dn := YX_fr hy (fun c hc => hA2 c (by omega))
  obtain ⟨IB, hB1, hB2, hB3⟩ := x_look (L := L) hsA (PH18 hR) (Or.inl rfl) hyA.1 h.2.2.2.2.1 hyA.2.2.2.2.2.2.2.1 (one := ln) hyA.2.2.2.2.2.2.1 hA3
  have hsB : SX e IB R a b T nw tp td to_ it th := SX_fr hsA (fun c hc => hB2 c (by omega))
  have hyB : YX IB a T q NR dg nw ln fm dn := YX_fr hyA (fun c hc => hB2 c (by omega))
  rw [hA2 2 (by omega), hA2 3 (by omega), hA2 4 (by omega)] at hB3
  have f2 : IB 2 = I 2 := by rw [hB2 2 (by omega), hA2 2 (by omega)]
  have f5 : IB 5 = I 5 := by rw [hB2 5 (by omega), hA2 5 (by omega)]
  obtain ⟨I2, hE, hG, hM⟩ := x_choose_l (L := L) hsB hyB hF hB3 NR 0 none 0 IB (.float 0) (by omega) (fun _ _ _ => rfl) (fun r0 h0 => by cases h0) rfl
  rw [f2, f5, nI_0] at hE
  rw [f2, f5] at hM
  refine ⟨I2, ?_, fun c hc => by rw [hG c (by omega) (by omega), hB2 c (by omega), hA2 c (by omega)], hM⟩
  have h15 := hyA.2.2.2.2.2.1
  have e3 : oF none = -3 := rfl
  rw [e3] at hE
  simp (disch := first | exact rt_bo_0 | exact rt_bo_1 | exact ns_float | exact ns_int | exact ns_ref | assumption | omega | (simp (disch := omega) only [ob_27, rg_27_0 hR, rg_27_1 hR, rg_27_2 hR, rg_27_3 hR, ar_28, ln_28, rg_27_4 hR, ar_29, ln_29, rg_27_5 hR, ar_30, ln_30, ob_17, rg_17_0 hR, rg_17_1 hR, rg_17_2 hR, ar_26, ln_26, ob_18, rg_18_0 hR, ar_19, ln_19, rg_18_1 hR, ar_20, ln_20, rg_18_2 hR, ar_21, ln_21, rg_18_3 hR, ar_22, ln_22, ob_15, rg_15_0 hR, ar_16, ln_16, rt_in_nI, Option.isSome_some, Option.getD_some, Bool.or_true, Bool.true_or]; done) | fail) only [e_X5_choose_0, e_X5_choose_1, e_X5_choose_4, e_X5_choose_5, e_X5_choose_6, e_X5_choose_9, e_X5_choose_10, e_X5_choose_13, e_X5_choose_16, e_X5_choose_19, e_X5_choose_21, e_X5_choose_22, e_X5_choose_23, e_X5_choose_24, e_X5_choose_25, e_X5_choose_29, e_X5_choose_30, e_X5_choose_33, e_X5_choose_36, e_X5_choose_39, e_X5_choose_40, e_X5_choose_41, e_X5_choose_43, e_X5_choose_46, e_X5_choose_47, e_X5_choose_50, e_X5_choose_53, e_X5_choose_54, e_X5_choose_55, e_X5_choose_57, e_X5_choose_60, e_X5_choose_62, e_X5_choose_63, e_X5_choose_65, e_X5_choose_68, e_X5_choose_70, e_X5_choose_71, e_X5_choose_74, e_X5_choose_76, e_X5_choose_77, e_X5_choose_78, e_X5_choose_80, e_X5_choose_83, e_X5_choose_85, e_X5_choose_86, e_X5_choose_88, e_X5_choose_89, e_X5_choose_92, e_X5_choose_95, e_X5_choose_96, e_X5_choose_98, e_X5_choose_101, e_X5_choose_102, e_X5_choose_103, e_X5_choose_104, e_X5_choose_107, e_X5_choose_108, e_X0_lastNoun_0, e_X0_lastNoun_1, e_X0_lastNoun_4, rg_17_0 hR, rg_27_2 hR, hA1, h15, hB1, Option.getD_some, Option.bind_some, Option.toList_some, Option.toList_none, List.cons_append, List.nil_append]
  exact hE
/-- weighOne, for means and trouble -/
theorem x_weigh1 (h : SX e I R a b T nw tp td to_ it th) (hy : YX I a T q NR dg nw ln fm dn) (hF : YF q NR dg fm dn) (hr : r < NR) :
    ∃ I2, Ev mX5_weighOne 0 [.ref 27, .ref 17, .int (nI r)] [] (71 + e, I, L, R) = some (none, (71 + e, I2, L, R)) ∧ (∀ c, c < 27 ∨ 30 < c → I2 c = I c) ∧ (∀ j, j < pP q → I2 29 j = bs (mnA T (I 2) (I 3) (I 4) (I 5) tp td to_ it th nw ln q dg r j) T) ∧ I2 27 6 = trk T (I 2) (I 5) q fm dn (mnA T (I 2) (I 3) (I 4) (I 5) tp td to_ it th nw ln q dg r) (dg r) 0 (pP q) ∧ I2 27 7 = ff (fun k => ¬ tnp T q (mnA T (I 2) (I 3) (I 4) (I 5) tp td to_ it th nw ln q dg r) k = 0) 0 (pP q) := by
  have hR := h.1
  obtain ⟨IA, hA1, hA2, hA3⟩ := x_ref (L := L) h
  have hsA : SX e IA R a b T nw tp td to_ it th := SX_fr h (fun c hc => hA2 c (by omega))
  have hyA : YX IA a T q NR dg nw ln fm dn := YX_fr hy (fun c hc => hA2 c (by omega))
  obtain ⟨IB, hB1, hB2, hB3⟩ := x_look (L := L) hsA (PH18 hR) (Or.inl rfl) hyA.1 h.2.2.2.2.1 hyA.2.2.2.2.2.2.2.1 (one := ln) hyA.2.2.2.2.2.2.1 hA3
  have hsB : SX e IB R a b T nw tp td to_ it th := SX_fr hsA (fun c hc => hB2 c (by omega))
  have hyB : YX IB a T q NR dg nw ln fm dn := YX_fr hyA (fun c hc => hB2 c (by omega))
  rw [hA2 2 (by omega), hA2 3 (by omega), hA2 4 (by omega)] at hB3
  have f2 : IB 2 = I 2 := by rw [hB2 2 (by omega), hA2 2 (by omega)]
  have f5 : IB 5 = I 5 := by rw [hB2 5 (by omega), hA2 5 (by omega)]
  obtain ⟨I2, hE, w1, w2, w3, w4, w5⟩ := x_weigh (L := L) hsB hyB hF hr hB3
  rw [f2, f5] at w2 w3 w4
  refine ⟨I2, ?_, fun c hc => by rw [w1 c (by omega) (by omega), hB2 c (by omega), hA2 c (by omega)], w2, w3, w4⟩
  have h15 := hyA.2.2.2.2.2.1
  simp (disch := first | exact rt_bo_0 | exact rt_bo_1 | exact ns_float | exact ns_int | exact ns_ref | assumption | omega | (simp (disch := omega) only [ob_27, rg_27_0 hR, rg_27_1 hR, rg_27_2 hR, rg_27_3 hR, ar_28, ln_28, rg_27_4 hR, ar_29, ln_29, rg_27_5 hR, ar_30, ln_30, ob_17, rg_17_0 hR, rg_17_1 hR, rg_17_2 hR, ar_26, ln_26, ob_18, rg_18_0 hR, ar_19, ln_19, rg_18_1 hR, ar_20, ln_20, rg_18_2 hR, ar_21, ln_21, rg_18_3 hR, ar_22, ln_22, ob_15, rg_15_0 hR, ar_16, ln_16, rt_in_nI, Option.isSome_some, Option.getD_some, Bool.or_true, Bool.true_or]; done) | fail) only [e_X5_weighOne_0, e_X5_weighOne_1, e_X5_weighOne_4, e_X5_weighOne_5, e_X5_weighOne_6, e_X5_weighOne_9, e_X5_weighOne_10, e_X5_weighOne_13, e_X5_weighOne_16, e_X5_weighOne_19, e_X5_weighOne_20, e_X5_weighOne_21, e_X5_weighOne_22, e_X5_weighOne_25, e_X0_lastNoun_0, e_X0_lastNoun_1, e_X0_lastNoun_4, rg_17_0 hR, rg_27_2 hR, hA1, h15, hB1, hE, Option.getD_some, Option.bind_some, Option.toList_some, Option.toList_none, List.cons_append, List.nil_append]
end P29

section P50
variable {e : Nat} {I I1 I2 J : Nat → Nat → Int32} {L : Nat → Nat → Int64} {R : Nat → Nat → Option Nat} {a b T E j n S nw NR fm r M p len : Nat} {x y w u to_ : Int32} {q : PhT} {ln one : Option Nat} {dg : Nat → Nat → Nat} {dn : Bool} {wd : List Nat}
theorem x_wlet (hR : RG R a b) (h3 : I 17 3 = nI len) (hl : len ≤ 10) {t : Nat} (ht : t < 10) : Ev mX4_wLetter 0 [.ref 17, .int (nI t)] [] (71 + e, I, L, R) = some (some (.int (if t < len then I 26 t else 0)), (71 + e, I, L, R)) := by
  have e10 : (10 : Int32) = nI 10 := rfl
  have c : ¬ 10 ≤ t := by omega
  by_cases h : t < len
  · have c2 : ¬ len ≤ t := by omega
    rw [if_pos h]
    simp (disch := first | exact rt_bo_0 | exact rt_bo_1 | exact ns_float | exact ns_int | exact ns_ref | assumption | omega | (simp (disch := omega) only [ob_17, rg_17_0 hR, rg_17_1 hR, rg_17_2 hR, ar_26, ln_26, rt_in_nI, Option.isSome_some, Option.getD_some, Bool.or_true, Bool.true_or]; done) | fail) only [e_X4_wLetter_0, e_X4_wLetter_1, e_X4_wLetter_4, e_X4_wLetter_5, e_X4_wLetter_6, e_X4_wLetter_9, e_X4_wLetter_12, e_X4_wLetter_13, e_X4_wLetter_15, e_X4_wLetter_18, e_X4_wLetter_19, e_X4_wLetter_22, e_X4_wLetter_23, e_X4_wLetter_24, e_X4_wLetter_27, e_X4_wLetter_28, h3, e10, q_l0, q_le, c, c2, rg_17_2 hR, nI_cl, if_false, Option.getD_some, Option.bind_some, Option.toList_some, Option.toList_none, List.cons_append, List.nil_append]
  · have c2 : len ≤ t := by omega
    rw [if_neg h]
    simp (disch := first | exact rt_bo_0 | exact rt_bo_1 | exact ns_float | exact ns_int | exact ns_ref | assumption | omega | (simp (disch := omega) only [ob_17, rg_17_0 hR, rg_17_1 hR, rg_17_2 hR, ar_26, ln_26, rt_in_nI, Option.isSome_some, Option.getD_some, Bool.or_true, Bool.true_or]; done) | fail) only [e_X4_wLetter_0, e_X4_wLetter_1, e_X4_wLetter_4, e_X4_wLetter_5, e_X4_wLetter_6, e_X4_wLetter_9, e_X4_wLetter_12, e_X4_wLetter_13, e_X4_wLetter_15, e_X4_wLetter_18, e_X4_wLetter_19, e_X4_wLetter_22, e_X4_wLetter_23, e_X4_wLetter_24, e_X4_wLetter_27, e_X4_wLetter_28, h3, e10, q_l0, q_le, c2, if_true, if_false, Option.getD_some, Option.bind_some, Option.toList_some, Option.toList_none, List.cons_append, List.nil_append]
theorem x_tell_l (hR : RG R a b) (h8 : nw < 8) (hJ9 : J 9 5 = nI nw) (h3 : J 17 3 = nI len) (hl : len ≤ 10) : ∀ (f i : Nat) (I : Nat → Nat → Int32), i + f = 10 → (∀ c, c ≠ 10 → I c = J c) → (∀ t, t < 10 * nw ∨ 10 * nw + 10 ≤ t → I 10 t = J 10 t) → (∀ t, t < i → I 10 (10 * nw + t) = if t < len then J 26 t else 0) →
    ∃ I2, Ev mX8_tell 25 [.ref 9, .ref 17, .int x, .int (nI i)] [] (71 + e, I, L, R) = Ev mX8_tell 56 [.ref 9, .ref 17, .int x, .int (nI 10)] [] (71 + e, I2, L, R) ∧ (∀ c, c ≠ 10 → I2 c = J c) ∧ (∀ t, t < 10 * nw ∨ 10 * nw + 10 ≤ t → I2 10 t = J 10 t) ∧ ∀ t, t < 10 → I2 10 (10 * nw + t) = if t < len then J 26 t else 0 := by
  intro f
  have e10 : (10 : Int32) = nI 10 := rfl
  have m10 : nI nw * nI 10 = nI (10 * nw) := by rw [pk_mul, Nat.mul_comm]
  induction f with
  | zero =>
    intro i I hi f1 f2 f3
    have hi' : i = 10 := by omega
    subst hi'
    refine ⟨I, ?_, f1, f2, f3⟩
    rw [e_X8_tell_25]
    simp (disch := first | exact rt_bo_0 | exact rt_bo_1 | exact ns_float | exact ns_int | exact ns_ref | assumption | omega | (simp (disch := omega) only [ob_9, rg_9_0 hR, ar_10, ln_10, rg_9_1 hR, ar_11, ln_11, rg_9_2 hR, ar_12, ln_12, rg_9_3 hR, ar_13, ln_13, rg_9_4 hR, ar_14, ln_14, ob_17, rg_17_0 hR, rg_17_1 hR, rg_17_2 hR, ar_26, ln_26, rt_in_nI, Option.isSome_some, Option.getD_some, Bool.or_true, Bool.true_or]; done) | fail) only [e_X8_tell_0, e_X8_tell_1, e_X8_tell_4, e_X8_tell_6, e_X8_tell_9, e_X8_tell_10, e_X8_tell_11, e_X8_tell_14, e_X8_tell_15, e_X8_tell_18, e_X8_tell_19, e_X8_tell_22, e_X8_tell_23, e_X8_tell_24, e_X8_tell_26, e_X8_tell_28, e_X8_tell_31, e_X8_tell_32, e_X8_tell_35, e_X8_tell_36, e_X8_tell_39, e_X8_tell_41, e_X8_tell_42, e_X8_tell_43, e_X8_tell_44, e_X8_tell_45, e_X8_tell_46, e_X8_tell_49, e_X8_tell_50, e_X8_tell_53, e_X8_tell_57, e_X8_tell_60, e_X8_tell_61, e_X8_tell_64, e_X8_tell_65, e_X8_tell_68, e_X8_tell_71, e_X8_tell_72, e_X8_tell_73, e_X8_tell_76, e_X8_tell_77, e_X8_tell_80, e_X8_tell_81, e_X8_tell_84, e_X8_tell_85, e_X8_tell_88, e_X8_tell_89, e_X8_tell_90, e_X8_tell_93, e_X8_tell_94, e_X8_tell_97, e_X8_tell_98, e_X8_tell_99, e_X8_tell_100, e_X8_tell_101, e_X8_tell_104, e_X8_tell_105, e_X8_tell_106, e_X8_tell_109, e10, q_le, Nat.le_refl, if_true, Option.getD_some, Option.bind_some, Option.toList_some, Option.toList_none, List.cons_append, List.nil_append]
  | succ f ih =>
    intro i I hi f1 f2 f3
    have c : ¬ 10 ≤ i := by omega
    have h9 : I 9 5 = nI nw := by rw [f1 9 (by omega)]; exact hJ9
    have hw := x_wlet (e := e) (I := I) (L := L) (t := i) hR (by rw [f1 17 (by omega)]; exact h3) hl (by omega)
    rw [f1 26 (by omega)] at hw
    obtain ⟨I2, hE, k1, k2, k3⟩ := ih (i + 1) (rt_up I 10 (10 * nw + i) (if i < len then J 26 i else 0)) (by omega) (fun c hc => by rw [rt_up_f hc]; exact f1 c hc) (fun t ht => by rw [rt_up_n2 (by omega)]; exact f2 t ht) (fun t ht => by
      by_cases hti : t = i
      · subst hti; rw [rt_up_eq]
      · rw [rt_up_n2 (by omega)]; exact f3 t (by omega))
    refine ⟨I2, ?_, k1, k2, k3⟩
    rw [e_X8_tell_25]
    simp (disch := first | exact rt_bo_0 | exact rt_bo_1 | exact ns_float | exact ns_int | exact ns_ref | assumption | omega | (simp (disch := omega) only [ob_9, rg_9_0 hR, ar_10, ln_10, rg_9_1 hR, ar_11, ln_11, rg_9_2 hR, ar_12, ln_12, rg_9_3 hR, ar_13, ln_13, rg_9_4 hR, ar_14, ln_14, ob_17, rg_17_0 hR, rg_17_1 hR, rg_17_2 hR, ar_26, ln_26, rt_in_nI, Option.isSome_some, Option.getD_some, Bool.or_true, Bool.true_or]; done) | fail) only [e_X8_tell_0, e_X8_tell_1, e_X8_tell_4, e_X8_tell_6, e_X8_tell_9, e_X8_tell_10, e_X8_tell_11, e_X8_tell_14, e_X8_tell_15, e_X8_tell_18, e_X8_tell_19, e_X8_tell_22, e_X8_tell_23, e_X8_tell_24, e_X8_tell_26, e_X8_tell_28, e_X8_tell_31, e_X8_tell_32, e_X8_tell_35, e_X8_tell_36, e_X8_tell_39, e_X8_tell_41, e_X8_tell_42, e_X8_tell_43, e_X8_tell_44, e_X8_tell_45, e_X8_tell_46, e_X8_tell_49, e_X8_tell_50, e_X8_tell_53, e_X8_tell_57, e_X8_tell_60, e_X8_tell_61, e_X8_tell_64, e_X8_tell_65, e_X8_tell_68, e_X8_tell_71, e_X8_tell_72, e_X8_tell_73, e_X8_tell_76, e_X8_tell_77, e_X8_tell_80, e_X8_tell_81, e_X8_tell_84, e_X8_tell_85, e_X8_tell_88, e_X8_tell_89, e_X8_tell_90, e_X8_tell_93, e_X8_tell_94, e_X8_tell_97, e_X8_tell_98, e_X8_tell_99, e_X8_tell_100, e_X8_tell_101, e_X8_tell_104, e_X8_tell_105, e_X8_tell_106, e_X8_tell_109, e10, q_le, q_s, c, h9, m10, nI_add, hw, rg_9_0 hR, nI_cl, if_false, Option.getD_some, Option.bind_some, Option.toList_some, Option.toList_none, List.cons_append, List.nil_append]
    exact hE
/-- the told word comes to the class's words -/
theorem x_tell (hR : RG R a b) (hab : a = 24 ∨ a = 25) (h8 : nw < 8) (h9 : I 9 5 = nI nw) (h3 : I 17 3 = nI len) (hl : len ≤ 10) (h23 : I 23 2 = nI NR) (hNR : 0 < NR) (hN2 : NR ≤ 264) :
    ∃ (I2 : Nat → Nat → Int32) (L2 : Nat → Nat → Int64) (R2 : Nat → Nat → Option Nat), Ev mX8_tell 0 [.ref 9, .ref 17, .int x, .float 0] [] (71 + 5 * nw, I, L, R) = some (none, (71 + 5 * (nw + 1), I2, L2, R2)) ∧ (∀ c, c < 71 + 5 * nw → c < 9 ∨ 14 < c → I2 c = I c) ∧ (∀ c, c < 71 + 5 * nw → L2 c = L c) ∧ (∀ c, c < 71 + 5 * nw → c ≠ 12 → R2 c = R c) ∧ (∀ k, k ≠ nw → R2 12 k = R 12 k) ∧ R2 12 nw = some (71 + 5 * nw) ∧ I2 9 5 = nI (nw + 1) ∧ I2 11 = updf (I 11) nw (nI len) ∧ (∀ t, t < 10 * nw ∨ 10 * nw + 10 ≤ t → I2 10 t = I 10 t) ∧ (∀ t, t < len → I2 10 (10 * nw + t) = I 26 t) ∧ I2 13 = updf (I 13) nw (I a 0) ∧ I2 14 = updf (I 14) nw x ∧
      I2 (71 + 5 * nw) 4 = I 18 4 ∧ I2 (71 + 5 * nw) 5 = I 18 5 ∧ (∀ k, k < 7 → I2 (71 + 5 * nw + 1) k = I 19 k ∧ I2 (71 + 5 * nw + 2) k = I 20 k ∧ I2 (71 + 5 * nw + 3) k = I 21 k) ∧ (∀ k, k < 6 → I2 (71 + 5 * nw + 4) k = I 22 k) ∧ PH (71 + 5 * (nw + 1)) R2 (71 + 5 * nw) := by
  have e8 : (8 : Int32) = nI 8 := rfl
  have hfA : ∀ c, c ≠ 11 → rt_up I 11 nw (nI len) c = I c := fun c hc => rt_up_f hc
  obtain ⟨IA, hA1, hA2, hA3, hA4⟩ := x_tell_l (e := 5 * nw) (L := L) (x := x) (J := rt_up I 11 nw (nI len)) hR h8 (by rw [hfA 9 (by omega)]; exact h9) (by rw [hfA 17 (by omega)]; exact h3) hl 10 0 (rt_up I 11 nw (nI len)) (by omega) (fun _ _ => rfl) (fun _ _ => rfl) (fun t ht => by omega)
  rw [nI_0] at hA1
  rw [hfA 10 (by omega)] at hA3
  rw [hfA 26 (by omega)] at hA4
  have hAc : ∀ c, c ≠ 10 → c ≠ 11 → IA c = I c := fun c a1 a2 => by rw [hA2 c a1, hfA c a2]
  obtain ⟨IB, LB, RB, hB1, hB2, ⟨hB3, hB4⟩, hB5, hB6, r0, r1, r2, r3⟩ := x_copy (I := IA) (L := L) (p := 71 + 5 * nw) (nw := nw) hR rfl
  have hBI : ∀ c, c < 71 + 5 * nw → IB c = IA c := fun c hc => (hB2 c hc).1
  have hBR : ∀ c, c < 71 + 5 * nw → RB c = R c := fun c hc => (hB2 c hc).2.2
  have B9 : IB 9 5 = nI nw := by rw [hBI 9 (by omega), hAc 9 (by omega) (by omega)]; exact h9
  have A9 : IA 9 5 = nI nw := by rw [hAc 9 (by omega) (by omega)]; exact h9
  have c8 : nw < 8 := h8
  have o9 : rt_ob (71 + 5 * nw + 5) 9 8 = true := kd_ob (by omega) rfl
  have o17 : rt_ob (71 + 5 * nw + 5) 17 4 = true := kd_ob (by omega) rfl
  have o23 : rt_ob (71 + 5 * nw + 5) 23 2 = true := kd_ob (by omega) rfl
  have op : rt_ob (71 + 5 * nw + 5) (71 + 5 * nw) 1 = true := by
    have := kdp nw 0 (by omega)
    exact kd_ob (by omega) this
  have a12 : rt_ar (71 + 5 * nw + 5) 12 5 = true := kd_ar (l := 8) (by omega) rfl
  have a13 : rt_ar (71 + 5 * nw + 5) 13 1 = true := kd_ar (l := 8) (by omega) rfl
  have a14 : rt_ar (71 + 5 * nw + 5) 14 1 = true := kd_ar (l := 8) (by omega) rfl
  have aa : rt_ar (71 + 5 * nw + 5) a 1 = true := by rcases hab with rfl | rfl <;> exact kd_ar (l := 264) (by omega) rfl
  have la : rt_ln a = 264 := by rcases hab with rfl | rfl <;> rfl
  have l12 : rt_ln 12 = 8 := rfl
  have l13 : rt_ln 13 = 8 := rfl
  have l14 : rt_ln 14 = 8 := rfl
  have i8 : rt_in (nI nw) 8 = true := rt_in_nI h8 (by omega)
  have s93 : rt_up RB 12 nw (some (71 + 5 * nw)) 9 3 = some 13 := by rw [rt_up_n1 (by omega), hBR 9 (by omega)]; exact rg_9_3 hR
  have s94 : rt_up RB 12 nw (some (71 + 5 * nw)) 9 4 = some 14 := by rw [rt_up_n1 (by omega), hBR 9 (by omega)]; exact rg_9_4 hR
  have s171 : rt_up RB 12 nw (some (71 + 5 * nw)) 17 1 = some 23 := by rw [rt_up_n1 (by omega), hBR 17 (by omega)]; exact rg_17_1 hR
  have s230 : rt_up RB 12 nw (some (71 + 5 * nw)) 23 0 = some a := by rw [rt_up_n1 (by omega), hBR 23 (by omega)]; exact rg_23_0 hR
  have B23 : IB 23 2 = nI NR := by rw [hBI 23 (by omega), hAc 23 (by omega) (by omega)]; exact h23
  have ri0 : rt_in 0 264 = true := rt_in_0 (by omega) (by omega)
  have hBa : IB a 0 = I a 0 := by rw [hBI a (by omega), hAc a (by omega) (by omega)]
  have hz0 : (NR ≤ 0) = False := eq_false (by omega)
  have z0 : ((0 : Int32) < 0) = False := by decide
  have zN : (nI NR ≤ 0) = False := by rw [← nI_0, q_le (by omega) (by omega)]; exact hz0
  have hrow : Ev mX2_row 0 [.ref 23, .int 0] [] (71 + 5 * nw + 5, IB, LB, rt_up RB 12 nw (some (71 + 5 * nw))) = some (some (.int (I a 0)), (71 + 5 * nw + 5, IB, LB, rt_up RB 12 nw (some (71 + 5 * nw)))) := by
    simp (disch := first | assumption | (simp only [s230, la, ri0, aa, Option.isSome_some, Option.getD_some]; done) | fail) only [e_X2_row_0, e_X2_row_1, e_X2_row_4, e_X2_row_5, e_X2_row_6, e_X2_row_9, e_X2_row_12, e_X2_row_13, e_X2_row_16, e_X2_row_17, e_X2_row_18, e_X2_row_21, e_X2_row_22, B23, z0, zN, s230, la, cl_0, hBa, if_false, Option.getD_some, Option.bind_some, Option.toList_some, Option.toList_none, List.cons_append, List.nil_append]
  refine ⟨rt_up (rt_up (rt_up IB 13 nw (I a 0)) 14 nw x) 9 5 (nI (nw + 1)), LB, rt_up RB 12 nw (some (71 + 5 * nw)), ?_, fun c h1 h2 => ?_, fun c hc => (hB2 c hc).2.1, fun c h1 h2 => by rw [rt_up_f h2, hBR c h1], fun k hk => by rw [rt_up_n2 hk, hBR 12 (by omega)], rt_up_eq, rt_up_eq, ?_, fun t ht => ?_, fun t ht => ?_, ?_, ?_, ?_, ?_, fun k hk => ?_, fun k hk => ?_, ?_⟩
  · have z8 : (nI nw < 8) = True := by rw [e8, q_lt (by omega) (by omega)]; exact eq_true h8
    simp (disch := first | exact rt_bo_0 | exact rt_bo_1 | exact ns_float | exact ns_int | exact ns_ref | assumption | omega | (simp (disch := omega) only [ob_9, rg_9_0 hR, ar_10, ln_10, rg_9_1 hR, ar_11, ln_11, rg_9_2 hR, ar_12, ln_12, rg_9_3 hR, ar_13, ln_13, rg_9_4 hR, ar_14, ln_14, ob_17, rg_17_0 hR, rg_17_1 hR, rg_17_2 hR, ar_26, ln_26, rt_in_nI, rt_in_nI, Option.isSome_some, Option.getD_some, Bool.or_true, Bool.true_or]; done) | fail) only [e_X8_tell_0, e_X8_tell_1, e_X8_tell_4, e_X8_tell_6, e_X8_tell_9, e_X8_tell_10, e_X8_tell_11, e_X8_tell_14, e_X8_tell_15, e_X8_tell_18, e_X8_tell_19, e_X8_tell_22, e_X8_tell_23, e_X8_tell_24, e_X8_tell_26, e_X8_tell_28, e_X8_tell_31, e_X8_tell_32, e_X8_tell_35, e_X8_tell_36, e_X8_tell_39, e_X8_tell_41, e_X8_tell_42, e_X8_tell_43, e_X8_tell_44, e_X8_tell_45, e_X8_tell_46, e_X8_tell_49, e_X8_tell_50, e_X8_tell_53, e_X8_tell_57, e_X8_tell_60, e_X8_tell_61, e_X8_tell_64, e_X8_tell_65, e_X8_tell_68, e_X8_tell_71, e_X8_tell_72, e_X8_tell_73, e_X8_tell_76, e_X8_tell_77, e_X8_tell_80, e_X8_tell_81, e_X8_tell_84, e_X8_tell_85, e_X8_tell_88, e_X8_tell_89, e_X8_tell_90, e_X8_tell_93, e_X8_tell_94, e_X8_tell_97, e_X8_tell_98, e_X8_tell_99, e_X8_tell_100, e_X8_tell_101, e_X8_tell_104, e_X8_tell_105, e_X8_tell_106, e_X8_tell_109, e_X4_wLength_0, e_X4_wLength_1, e_X4_wLength_4, h9, z8, h3, rg_9_1 hR, nI_cl, if_true, hA1, Option.getD_some, Option.bind_some, Option.toList_some, Option.toList_none, List.cons_append, List.nil_append]
    rw [e_X8_tell_56]
    simp (disch := first | exact rt_bo_0 | exact rt_bo_1 | exact ns_float | exact ns_int | exact ns_ref | assumption | omega | (simp (disch := omega) only [ob_9, rg_9_0 hR, ar_10, ln_10, rg_9_1 hR, ar_11, ln_11, rg_9_2 hR, ar_12, ln_12, rg_9_3 hR, ar_13, ln_13, rg_9_4 hR, ar_14, ln_14, ob_17, rg_17_0 hR, rg_17_1 hR, rg_17_2 hR, ar_26, ln_26, ob_18, rg_18_0 hR, ar_19, ln_19, rg_18_1 hR, ar_20, ln_20, rg_18_2 hR, ar_21, ln_21, rg_18_3 hR, ar_22, ln_22, o9, rt_in_nI, Option.isSome_some, Option.getD_some, Bool.or_true, Bool.true_or]; done) | fail) only [e_X8_tell_56, e_X8_tell_57, e_X8_tell_60, e_X8_tell_61, e_X8_tell_64, e_X8_tell_65, e_X8_tell_68, rg_9_2 hR, rg_17_0 hR, A9, hB1, Option.getD_some, Option.bind_some, Option.toList_some, Option.toList_none, List.cons_append, List.nil_append]
    simp (disch := first | assumption | (simp only [s93, s94, s171, s230, l12, l13, l14, i8, a12, a13, a14, op, Option.isSome_some, Option.getD_some]; done) | omega | fail) only [e_X8_tell_71, e_X8_tell_72, e_X8_tell_73, e_X8_tell_76, e_X8_tell_77, e_X8_tell_80, e_X8_tell_81, e_X8_tell_84, e_X8_tell_85, e_X8_tell_88, e_X8_tell_89, e_X8_tell_90, e_X8_tell_93, e_X8_tell_94, e_X8_tell_97, e_X8_tell_98, e_X8_tell_99, e_X8_tell_100, e_X8_tell_101, e_X8_tell_104, e_X8_tell_105, e_X8_tell_106, e_X8_tell_109, s93, s94, s171, s230, B9, hrow, nI_cl, rt_up_n1, rt_up_n2, rt_up_eq, q_s, Option.getD_some, Option.bind_some, Option.toList_some, Option.toList_none, List.cons_append, List.nil_append]
    rw [show 71 + 5 * (nw + 1) = 71 + 5 * nw + 5 by omega]
  · rw [rt_up_f (by omega), rt_up_f (by omega), rt_up_f (by omega), hBI c h1, hAc c (by omega) (by omega)]
  · rw [rt_up_f (by omega), rt_up_f (by omega), rt_up_f (by omega), hBI 11 (by omega), hA2 11 (by omega), updf_up]
  · rw [rt_up_n1 (by omega), rt_up_n1 (by omega), rt_up_n1 (by omega), hBI 10 (by omega)]; exact hA3 t ht
  · rw [rt_up_n1 (by omega), rt_up_n1 (by omega), rt_up_n1 (by omega), hBI 10 (by omega), hA4 t (by omega), if_pos ht]
  · rw [rt_up_f (by omega), rt_up_f (by omega), updf_up, hBI 13 (by omega), hAc 13 (by omega) (by omega)]
  · rw [rt_up_f (by omega), updf_up, rt_up_f (by omega), hBI 14 (by omega), hAc 14 (by omega) (by omega)]
  · rw [rt_up_n1 (by omega), rt_up_n1 (by omega), rt_up_n1 (by omega), hB3, hAc 18 (by omega) (by omega)]
  · rw [rt_up_n1 (by omega), rt_up_n1 (by omega), rt_up_n1 (by omega), hB4, hAc 18 (by omega) (by omega)]
  · obtain ⟨b1, b2, b3⟩ := hB5 k hk
    rw [rt_up_f (by omega), rt_up_f (by omega), rt_up_f (by omega), rt_up_f (by omega), rt_up_f (by omega), rt_up_f (by omega), rt_up_f (by omega), rt_up_f (by omega), rt_up_f (by omega), b1, b2, b3, hAc 19 (by omega) (by omega), hAc 20 (by omega) (by omega), hAc 21 (by omega) (by omega)]
    exact ⟨rfl, rfl, rfl⟩
  · rw [rt_up_f (by omega), rt_up_f (by omega), rt_up_f (by omega), hB6 k hk, hAc 22 (by omega) (by omega)]
  · have hn5 : 71 + 5 * (nw + 1) = 71 + 5 * nw + 5 := by omega
    rw [hn5]
    have k1 := kdp nw 1 (by omega)
    have k2 := kdp nw 2 (by omega)
    have k3 := kdp nw 3 (by omega)
    have k4 := kdp nw 4 (by omega)
    refine ⟨op, by rw [rt_up_n1 (by omega)]; exact r0, by rw [rt_up_n1 (by omega)]; exact r1, by rw [rt_up_n1 (by omega)]; exact r2, by rw [rt_up_n1 (by omega)]; exact r3, kd_ar (by omega) k1, kd_ar (by omega) k2, kd_ar (by omega) k3, kd_ar (by omega) k4, kd_ln k1, kd_ln k2, kd_ln k3, kd_ln k4⟩
end P50

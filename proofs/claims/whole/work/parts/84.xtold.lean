theorem rt_in_0 {n : Nat} (h : 0 < n) (hn : n < 2147483648) : rt_in 0 n = true := by
  have := rt_in_nI h hn
  rw [nI_0] at this
  exact this
theorem cl_0 : (0 : Int32).toNatClampNeg = 0 := by decide
section P22
variable {e : Nat} {I I2 : Nat → Nat → Int32} {L : Nat → Nat → Int64} {R : Nat → Nat → Option Nat} {a b T j n k p i nw : Nat} {x : Int32} {q : PhT} {tp : Nat → PhT} {td : Nat → Nat → Nat} {to_ : Nat → Option Nat} {it th one : Option Nat}
/-- what the class's Sense stands on: the room, words told, what was mentioned and moved last -/
def SX (e : Nat) (I : Nat → Nat → Int32) (R : Nat → Nat → Option Nat) (a b T nw : Nat) (tp : Nat → PhT) (td : Nat → Nat → Nat) (to_ : Nat → Option Nat) (it th : Option Nat) : Prop :=
  RG R a b ∧ I 1 5 = nI T ∧ T ≤ 16 ∧ RoomOK T (I 2) (I 5) ∧ nw ≤ 8 ∧ I 9 5 = nI nw ∧
  (∀ k, k < nw → R 12 k = some (71 + 5 * k) ∧ PH (71 + e) R (71 + 5 * k) ∧ PX I (71 + 5 * k) (tp k) ∧ wfq k (tp k) ∧ wfd (tp k) (td k) ∧ won k (to_ k) ∧ I 14 k = oX (to_ k) ∧ DX (I 13 k) (pO (tp k)) (td k) ∧ 0 < pP (tp k)) ∧
  (∃ n, I 15 1 = nI n ∧ n ≤ 420 ∧ ((n = 0 ∧ it = none) ∨ ∃ x, 0 < n ∧ it = some x ∧ I 16 (n - 1) = nI x ∧ x < T)) ∧
  (∃ E, I 1 6 = nI E ∧ E ≤ 200 ∧ ((E = 0 ∧ th = none) ∨ ∃ x, 0 < E ∧ th = some x ∧ I 6 (6 * (E - 1) + 1) = nI x ∧ x < T))
theorem SX_fr (h : SX e I R a b T nw tp td to_ it th) (hf : ∀ c, c < 27 ∨ 30 < c → I2 c = I c) : SX e I2 R a b T nw tp td to_ it th := by
  obtain ⟨h1, h2, h3, h4, h5, h6, h7, h8, h9⟩ := h
  refine ⟨h1, ?_, h3, ?_, h5, ?_, ?_, ?_, ?_⟩
  · rw [hf 1 (by omega)]; exact h2
  · rw [hf 2 (by omega), hf 5 (by omega)]; exact h4
  · rw [hf 9 (by omega)]; exact h6
  · intro k hk
    obtain ⟨g1, g2, g3, g4, g5, g6, g7, g8, g9⟩ := h7 k hk
    refine ⟨g1, g2, PX_fr g3 (fun c hc1 hc2 => hf c (by omega)), g4, g5, g6, ?_, ?_, g9⟩
    · rw [hf 14 (by omega)]; exact g7
    · rw [hf 13 (by omega)]; exact g8
  · rw [hf 15 (by omega), hf 16 (by omega)]; exact h8
  · rw [hf 1 (by omega), hf 6 (by omega)]; exact h9
theorem SX_it (h : SX e I R a b T nw tp td to_ it th) : (∀ x, it = some x → x < T) ∧ (∀ x, th = some x → x < T) := by
  obtain ⟨h1, h2, h3, h4, h5, h6, h7, ⟨n, -, -, h8⟩, ⟨E, -, -, h9⟩⟩ := h
  constructor
  · intro x hx
    rcases h8 with ⟨-, g⟩ | ⟨y, -, g, -, g2⟩
    · rw [g] at hx; cases hx
    · rw [g] at hx; cases hx; exact g2
  · intro x hx
    rcases h9 with ⟨-, g⟩ | ⟨y, -, g, -, g2⟩
    · rw [g] at hx; cases hx
    · rw [g] at hx; cases hx; exact g2
theorem SX_mb (h : SX e I R a b T nw tp td to_ it th) : Ev mX0_mentionedBack 0 [.ref 15, .int 0] [] (71 + e, I, L, R) = some (some (.int (oN it)), (71 + e, I, L, R)) := by
  obtain ⟨h1, h2, h3, h4, h5, h6, h7, ⟨n, g1, g2, h8⟩, -⟩ := h
  rcases h8 with ⟨rfl, rfl⟩ | ⟨y, g3, rfl, g4, g5⟩
  · exact x_mback_out h1 g1 g2 (Or.inr (by rw [nI_0]; exact Int32.le_refl 0))
  · have hh := x_mback_in (e := e) (L := L) (j := 0) h1 g1 g2 g3
    rw [nI_0, show n - 1 - 0 = n - 1 by omega, g4] at hh
    exact hh
theorem SX_lm (h : SX e I R a b T nw tp td to_ it th) : Ev mX3_lastMoved 0 [.ref 1] [] (71 + e, I, L, R) = some (some (.int (oN th)), (71 + e, I, L, R)) := by
  obtain ⟨h1, h2, h3, h4, h5, h6, h7, -, ⟨E, g1, g2, h8⟩⟩ := h
  have hR := h1
  rcases h8 with ⟨rfl, rfl⟩ | ⟨y, g3, rfl, g4, g5⟩
  · have hp := x_part_out (e := e) (L := L) (x := nI 0 - 1) (y := 1) h1 g1 g2 (Or.inl (Or.inl (by decide)))
    simp (disch := first | exact rt_bo_0 | exact rt_bo_1 | exact ns_float | exact ns_int | exact ns_ref | assumption | omega | (simp (disch := omega) only [ob_1, rg_1_0 hR, ar_2, ln_2, rg_1_1 hR, ar_3, ln_3, rg_1_2 hR, ar_4, ln_4, rg_1_3 hR, ar_5, ln_5, rg_1_4 hR, ar_6, ln_6, rt_in_nI, Option.isSome_some, Option.getD_some, Bool.or_true, Bool.true_or]; done) | fail) only [e_X3_lastMoved_0, e_X3_lastMoved_1, e_X3_lastMoved_2, e_X3_lastMoved_5, e_X3_lastMoved_6, e_X3_lastMoved_7, e_X3_lastMoved_8, e_X3_lastMoved_11, g1, hp, Option.getD_some, Option.bind_some, Option.toList_some, Option.toList_none, List.cons_append, List.nil_append]
    rfl
  · have hp := x_part_in (e := e) (L := L) (j := E - 1) (p := 1) h1 g1 g2 (by omega) (by omega)
    have e1 : nI 1 = 1 := rfl
    rw [e1, g4] at hp
    simp (disch := first | exact rt_bo_0 | exact rt_bo_1 | exact ns_float | exact ns_int | exact ns_ref | assumption | omega | (simp (disch := omega) only [ob_1, rg_1_0 hR, ar_2, ln_2, rg_1_1 hR, ar_3, ln_3, rg_1_2 hR, ar_4, ln_4, rg_1_3 hR, ar_5, ln_5, rg_1_4 hR, ar_6, ln_6, rt_in_nI, Option.isSome_some, Option.getD_some, Bool.or_true, Bool.true_or]; done) | fail) only [e_X3_lastMoved_0, e_X3_lastMoved_1, e_X3_lastMoved_2, e_X3_lastMoved_5, e_X3_lastMoved_6, e_X3_lastMoved_7, e_X3_lastMoved_8, e_X3_lastMoved_11, g1, q_p g3, hp, Option.getD_some, Option.bind_some, Option.toList_some, Option.toList_none, List.cons_append, List.nil_append]
    rfl
theorem x_look (h : SX e I R a b T nw tp td to_ it th) (hp : PH (71 + e) R p) (hpp : p = 18 ∨ 71 ≤ p) (hq : PX I p q) {m : Nat} (h8 : m ≤ 8) (hw : wfq m q) {ts : Nat → Nat → Bool} (h1 : won m one) (hts : ∀ k, k < m → I 30 k = bs (ts k) T) :
    ∃ I2, Ev mX5_lookAlone 0 [.ref 27, .ref p, .int (oX one), .float 0] [] (71 + e, I, L, R) = some (none, (71 + e, I2, L, R)) ∧ (∀ c, c ≠ 28 → I2 c = I c) ∧ ∀ j, j < pP q → I2 28 j = bs (aln (I 2) (I 3) (I 4) ts it th one q j) T := by
  obtain ⟨I2, hE, hF, hM⟩ := x_look_l (e := e) (L := L) h.1 h.2.2.1 hp hpp h8 hw (ts := ts) h1 (SX_it h).1 (SX_it h).2 (J := I) (fun I2 hI => SX_mb (SX_fr h (fun c hc => hI c (by omega)))) (fun I2 hI => SX_lm (SX_fr h (fun c hc => hI c (by omega)))) h.2.1 hq hts (pP q) 0 I (by omega) (fun _ _ => rfl) (fun j hj => by omega)
  refine ⟨I2, ?_, hF, hM⟩
  have hR := h.1
  rw [nI_0] at hE
  simp (disch := first | exact rt_bo_0 | exact rt_bo_1 | exact ns_float | exact ns_int | exact ns_ref | assumption | omega | (simp (disch := omega) only [ob_27, rg_27_0 hR, rg_27_1 hR, rg_27_2 hR, rg_27_3 hR, ar_28, ln_28, rg_27_4 hR, ar_29, ln_29, rg_27_5 hR, ar_30, ln_30, rt_in_nI, Option.isSome_some, Option.getD_some, Bool.or_true, Bool.true_or]; done) | fail) only [e_X5_lookAlone_0, e_X5_lookAlone_1, e_X5_lookAlone_3, e_X5_lookAlone_4, e_X5_lookAlone_7, e_X5_lookAlone_10, e_X5_lookAlone_11, e_X5_lookAlone_13, e_X5_lookAlone_16, e_X5_lookAlone_17, e_X5_lookAlone_20, e_X5_lookAlone_21, e_X5_lookAlone_22, e_X5_lookAlone_23, e_X5_lookAlone_24, e_X5_lookAlone_25, e_X5_lookAlone_28, e_X5_lookAlone_29, e_X5_lookAlone_32, e_X5_lookAlone_35, hE]
/-- what the words told mean, the first k of them -/
def tsn (T : Nat) (so co si at_ : Nat → Int32) (tp : Nat → PhT) (td : Nat → Nat → Nat) (to_ : Nat → Option Nat) (it th : Option Nat) : Nat → Nat → Nat → Bool
  | 0 => fun _ _ => false
  | k + 1 => fun j x => if j = k then mng T so at_ (tp k) (td k) (aln so co si (tsn T so co si at_ tp td to_ it th k) it th (to_ k) (tp k)) 0 x else tsn T so co si at_ tp td to_ it th k j x
theorem x_ref_l {J : Nat → Nat → Int32} (h : SX e J R a b T nw tp td to_ it th) : ∀ (g k : Nat) (I : Nat → Nat → Int32) (v : Value), k + g = nw → (∀ c, c < 28 ∨ 30 < c → I c = J c) → (∀ j, j < k → I 30 j = bs (tsn T (J 2) (J 3) (J 4) (J 5) tp td to_ it th k j) T) → rt_ns v = true →
    ∃ I2, Ev mX5_refreshTold 2 [.ref 27, .int (nI k), v] [] (71 + e, I, L, R) = some (none, (71 + e, I2, L, R)) ∧ (∀ c, c < 28 ∨ 30 < c → I2 c = J c) ∧ ∀ j, j < nw → I2 30 j = bs (tsn T (J 2) (J 3) (J 4) (J 5) tp td to_ it th nw j) T := by
  have hR := h.1
  have h8 := h.2.2.2.2.1
  have e8 : (8 : Int32) = nI 8 := rfl
  intro g
  induction g with
  | zero =>
    intro k I v hk hF hj hv
    have hk' : k = nw := by omega
    subst hk'
    refine ⟨I, ?_, hF, hj⟩
    have h9 : I 9 5 = nI k := by rw [hF 9 (by omega)]; exact h.2.2.2.2.2.1
    rw [e_X5_refreshTold_2]
    simp (disch := first | exact rt_bo_0 | exact rt_bo_1 | exact ns_float | exact ns_int | exact ns_ref | assumption | omega | (simp (disch := omega) only [ob_27, rg_27_0 hR, rg_27_1 hR, rg_27_2 hR, rg_27_3 hR, ar_28, ln_28, rg_27_4 hR, ar_29, ln_29, rg_27_5 hR, ar_30, ln_30, ob_9, rg_9_0 hR, ar_10, ln_10, rg_9_1 hR, ar_11, ln_11, rg_9_2 hR, ar_12, ln_12, rg_9_3 hR, ar_13, ln_13, rg_9_4 hR, ar_14, ln_14, rt_in_nI, Option.isSome_some, Option.getD_some, Bool.or_true, Bool.true_or]; done) | fail) only [e_X5_refreshTold_0, e_X5_refreshTold_1, e_X5_refreshTold_3, e_X5_refreshTold_4, e_X5_refreshTold_7, e_X5_refreshTold_10, e_X5_refreshTold_13, e_X5_refreshTold_14, e_X5_refreshTold_16, e_X5_refreshTold_19, e_X5_refreshTold_20, e_X5_refreshTold_23, e_X5_refreshTold_24, e_X5_refreshTold_25, e_X5_refreshTold_26, e_X5_refreshTold_27, e_X5_refreshTold_30, e_X5_refreshTold_31, e_X5_refreshTold_34, e_X5_refreshTold_35, e_X5_refreshTold_36, e_X5_refreshTold_39, e_X5_refreshTold_40, e_X5_refreshTold_41, e_X5_refreshTold_42, e_X5_refreshTold_45, e_X5_refreshTold_46, e_X5_refreshTold_49, e_X5_refreshTold_52, e_X5_refreshTold_53, e_X5_refreshTold_54, e_X5_refreshTold_55, e_X5_refreshTold_58, e_X5_refreshTold_59, e_X5_refreshTold_62, e_X5_refreshTold_65, e_X5_refreshTold_66, e_X5_refreshTold_69, e_X5_refreshTold_70, e_X5_refreshTold_71, e_X5_refreshTold_74, e_X5_refreshTold_75, e_X5_refreshTold_76, e_X5_refreshTold_77, e_X5_refreshTold_80, e_X5_refreshTold_83, e_X8_told_0, e_X8_told_1, e_X8_told_4, rg_27_1 hR, h9, q_le, Nat.le_refl, if_true, Option.getD_some, Option.bind_some, Option.toList_some, Option.toList_none, List.cons_append, List.nil_append]
  | succ g ih =>
    intro k I v hk hF hj hv
    have c : ¬ nw ≤ k := by omega
    have c8 : ¬ 8 ≤ k := by omega
    have hs : SX e (rt_up I 30 k 0) R a b T nw tp td to_ it th := SX_fr h (fun c hc => by rw [rt_up_f (by omega)]; exact hF c (by omega))
    obtain ⟨g1, g2, g3, g4, g5, g6, g7, g8, g9⟩ := hs.2.2.2.2.2.2.1 k (by omega)
    obtain ⟨IA, hA1, hA2, hA3⟩ := x_look (L := L) hs g2 (Or.inr (by omega)) g3 (show k ≤ 8 by omega) g4 (ts := tsn T (J 2) (J 3) (J 4) (J 5) tp td to_ it th k) g6 (fun j hj2 => by rw [rt_up_n2 (by omega)]; exact hj j hj2)
    have hs2 : SX e IA R a b T nw tp td to_ it th := SX_fr hs (fun c hc => hA2 c (by omega))
    obtain ⟨-, -, k3, -, -, -, k7, k8, -⟩ := hs2.2.2.2.2.2.2.1 k (by omega)
    have f2 : (rt_up I 30 k 0) 2 = J 2 := by rw [rt_up_f (by omega)]; exact hF 2 (by omega)
    have f3 : (rt_up I 30 k 0) 3 = J 3 := by rw [rt_up_f (by omega)]; exact hF 3 (by omega)
    have f4 : (rt_up I 30 k 0) 4 = J 4 := by rw [rt_up_f (by omega)]; exact hF 4 (by omega)
    have f5 : (rt_up I 30 k 0) 5 = J 5 := by rw [rt_up_f (by omega)]; exact hF 5 (by omega)
    rw [f2, f3, f4] at hA3
    obtain ⟨IB, hB1, hB2, hB3⟩ := x_link (e := e) (L := L) hR hs2.2.1 h.2.2.1 hs2.2.2.2.1 g2 (Or.inr (by omega)) k3 g4 g5 k8 hA3
    rw [hA2 2 (by omega), hA2 5 (by omega), f2, f5] at hB3
    have hF2 : ∀ c, c < 28 ∨ 30 < c → IB c = J c := fun c hc => by rw [hB2 c (by omega), hA2 c (by omega), rt_up_f (by omega)]; exact hF c hc
    obtain ⟨I2, hE, hG, hM⟩ := ih (k + 1) (rt_up IB 30 k (IB 29 0)) (.ref (71 + 5 * k)) (by omega) (fun c hc => by rw [rt_up_f (by omega)]; exact hF2 c hc) (fun j hj2 => by
      show rt_up IB 30 k (IB 29 0) 30 j = bs (fun x => if j = k then mng T (J 2) (J 5) (tp k) (td k) (aln (J 2) (J 3) (J 4) (tsn T (J 2) (J 3) (J 4) (J 5) tp td to_ it th k) it th (to_ k) (tp k)) 0 x else tsn T (J 2) (J 3) (J 4) (J 5) tp td to_ it th k j x) T
      by_cases hjk : j = k
      · subst hjk
        rw [rt_up_eq, hB3 0 g9]
        simp only [if_true]
      · simp only [if_neg hjk]
        rw [rt_up_n2 hjk, hB2 30 (by omega), hA2 30 (by omega), rt_up_n2 hjk]
        exact hj j (by omega)) rfl
    refine ⟨I2, ?_, hG, hM⟩
    have h9 : I 9 5 = nI nw := by rw [hF 9 (by omega)]; exact h.2.2.2.2.2.1
    have h9a : (rt_up I 30 k 0) 9 5 = nI nw := hs.2.2.2.2.2.1
    have h9b : IA 9 5 = nI nw := hs2.2.2.2.2.2.1
    have hph : Ev mX8_phrase 0 [.ref 9, .int (nI k)] [] (71 + e, rt_up I 30 k 0, L, R) = some (some (.ref (71 + 5 * k)), (71 + e, rt_up I 30 k 0, L, R)) := by
      simp (disch := first | exact rt_bo_0 | exact rt_bo_1 | exact ns_float | exact ns_int | exact ns_ref | assumption | omega | (simp (disch := omega) only [ob_9, rg_9_0 hR, ar_10, ln_10, rg_9_1 hR, ar_11, ln_11, rg_9_2 hR, ar_12, ln_12, rg_9_3 hR, ar_13, ln_13, rg_9_4 hR, ar_14, ln_14, g1, nI_cl, rt_in_nI, Option.isSome_some, Option.getD_some, Bool.or_true, Bool.true_or]; done) | fail) only [e_X8_phrase_0, e_X8_phrase_1, e_X8_phrase_4, e_X8_phrase_5, e_X8_phrase_6, e_X8_phrase_9, e_X8_phrase_12, e_X8_phrase_13, e_X8_phrase_16, e_X8_phrase_17, e_X8_phrase_18, e_X8_phrase_22, h9a, rg_9_2 hR, g1, q_l0, q_le, c, nI_cl, if_false, Option.getD_some, Option.bind_some, Option.toList_some, Option.toList_none, List.cons_append, List.nil_append]
    have hone : Ev mX8_oneOf 0 [.ref 9, .int (nI k)] [] (71 + e, rt_up I 30 k 0, L, R) = some (some (.int (oX (to_ k))), (71 + e, rt_up I 30 k 0, L, R)) := by
      simp (disch := first | exact rt_bo_0 | exact rt_bo_1 | exact ns_float | exact ns_int | exact ns_ref | assumption | omega | (simp (disch := omega) only [ob_9, rg_9_0 hR, ar_10, ln_10, rg_9_1 hR, ar_11, ln_11, rg_9_2 hR, ar_12, ln_12, rg_9_3 hR, ar_13, ln_13, rg_9_4 hR, ar_14, ln_14, rt_in_nI, Option.isSome_some, Option.getD_some, Bool.or_true, Bool.true_or]; done) | fail) only [e_X8_oneOf_0, e_X8_oneOf_1, e_X8_oneOf_4, e_X8_oneOf_5, e_X8_oneOf_6, e_X8_oneOf_9, e_X8_oneOf_12, e_X8_oneOf_13, e_X8_oneOf_16, e_X8_oneOf_17, e_X8_oneOf_18, e_X8_oneOf_21, e_X8_oneOf_22, h9a, rg_9_4 hR, q_l0, q_le, c, nI_cl, g7, if_false, Option.getD_some, Option.bind_some, Option.toList_some, Option.toList_none, List.cons_append, List.nil_append]
    have hrow : Ev mX8_row 0 [.ref 9, .int (nI k)] [] (71 + e, IA, L, R) = some (some (.int (IA 13 k)), (71 + e, IA, L, R)) := by
      simp (disch := first | exact rt_bo_0 | exact rt_bo_1 | exact ns_float | exact ns_int | exact ns_ref | assumption | omega | (simp (disch := omega) only [ob_9, rg_9_0 hR, ar_10, ln_10, rg_9_1 hR, ar_11, ln_11, rg_9_2 hR, ar_12, ln_12, rg_9_3 hR, ar_13, ln_13, rg_9_4 hR, ar_14, ln_14, rt_in_nI, Option.isSome_some, Option.getD_some, Bool.or_true, Bool.true_or]; done) | fail) only [e_X8_row_0, e_X8_row_1, e_X8_row_4, e_X8_row_5, e_X8_row_6, e_X8_row_9, e_X8_row_12, e_X8_row_13, e_X8_row_16, e_X8_row_17, e_X8_row_18, e_X8_row_21, e_X8_row_22, h9b, rg_9_3 hR, q_l0, q_le, c, nI_cl, if_false, Option.getD_some, Option.bind_some, Option.toList_some, Option.toList_none, List.cons_append, List.nil_append]
    rw [e_X5_refreshTold_2]
    simp (disch := first | exact rt_bo_0 | exact rt_bo_1 | exact ns_float | exact ns_int | exact ns_ref | assumption | omega | (simp (disch := omega) only [ob_27, rg_27_0 hR, rg_27_1 hR, rg_27_2 hR, rg_27_3 hR, ar_28, ln_28, rg_27_4 hR, ar_29, ln_29, rg_27_5 hR, ar_30, ln_30, ob_9, rg_9_0 hR, ar_10, ln_10, rg_9_1 hR, ar_11, ln_11, rg_9_2 hR, ar_12, ln_12, rg_9_3 hR, ar_13, ln_13, rg_9_4 hR, ar_14, ln_14, rt_in_0, rt_in_nI, Option.isSome_some, Option.getD_some, Bool.or_true, Bool.true_or]; done) | fail) only [e_X5_refreshTold_0, e_X5_refreshTold_1, e_X5_refreshTold_3, e_X5_refreshTold_4, e_X5_refreshTold_7, e_X5_refreshTold_10, e_X5_refreshTold_13, e_X5_refreshTold_14, e_X5_refreshTold_16, e_X5_refreshTold_19, e_X5_refreshTold_20, e_X5_refreshTold_23, e_X5_refreshTold_24, e_X5_refreshTold_25, e_X5_refreshTold_26, e_X5_refreshTold_27, e_X5_refreshTold_30, e_X5_refreshTold_31, e_X5_refreshTold_34, e_X5_refreshTold_35, e_X5_refreshTold_36, e_X5_refreshTold_39, e_X5_refreshTold_40, e_X5_refreshTold_41, e_X5_refreshTold_42, e_X5_refreshTold_45, e_X5_refreshTold_46, e_X5_refreshTold_49, e_X5_refreshTold_52, e_X5_refreshTold_53, e_X5_refreshTold_54, e_X5_refreshTold_55, e_X5_refreshTold_58, e_X5_refreshTold_59, e_X5_refreshTold_62, e_X5_refreshTold_65, e_X5_refreshTold_66, e_X5_refreshTold_69, e_X5_refreshTold_70, e_X5_refreshTold_71, e_X5_refreshTold_74, e_X5_refreshTold_75, e_X5_refreshTold_76, e_X5_refreshTold_77, e_X5_refreshTold_80, e_X5_refreshTold_83, e_X8_told_0, e_X8_told_1, e_X8_told_4, cl_0, rg_27_1 hR, rg_27_4 hR, rg_27_5 hR, h9, e8, q_le, q_s, c, c8, nI_cl, hph, hone, hA1, hrow, hB1, if_false, Option.getD_some, Option.bind_some, Option.toList_some, Option.toList_none, List.cons_append, List.nil_append]
    exact hE
theorem x_ref (h : SX e I R a b T nw tp td to_ it th) : ∃ I2, Ev mX5_refreshTold 0 [.ref 27, .float 0, .float 0] [] (71 + e, I, L, R) = some (none, (71 + e, I2, L, R)) ∧ (∀ c, c < 28 ∨ 30 < c → I2 c = I c) ∧ ∀ j, j < nw → I2 30 j = bs (tsn T (I 2) (I 3) (I 4) (I 5) tp td to_ it th nw j) T := by
  obtain ⟨I2, hE, hF, hM⟩ := x_ref_l (L := L) h nw 0 I (.float 0) (by omega) (fun _ _ => rfl) (fun j hj => by omega) rfl
  refine ⟨I2, ?_, hF, hM⟩
  have hR := h.1
  rw [nI_0] at hE
  simp (disch := first | exact rt_bo_0 | exact rt_bo_1 | exact ns_float | exact ns_int | exact ns_ref | assumption | omega | (simp (disch := omega) only [ob_27, rg_27_0 hR, rg_27_1 hR, rg_27_2 hR, rg_27_3 hR, ar_28, ln_28, rg_27_4 hR, ar_29, ln_29, rg_27_5 hR, ar_30, ln_30, rt_in_nI, Option.isSome_some, Option.getD_some, Bool.or_true, Bool.true_or]; done) | fail) only [e_X5_refreshTold_0, e_X5_refreshTold_1, e_X5_refreshTold_3, e_X5_refreshTold_4, e_X5_refreshTold_7, e_X5_refreshTold_10, e_X5_refreshTold_13, e_X5_refreshTold_14, e_X5_refreshTold_16, e_X5_refreshTold_19, e_X5_refreshTold_20, e_X5_refreshTold_23, e_X5_refreshTold_24, e_X5_refreshTold_25, e_X5_refreshTold_26, e_X5_refreshTold_27, e_X5_refreshTold_30, e_X5_refreshTold_31, e_X5_refreshTold_34, e_X5_refreshTold_35, e_X5_refreshTold_36, e_X5_refreshTold_39, e_X5_refreshTold_40, e_X5_refreshTold_41, e_X5_refreshTold_42, e_X5_refreshTold_45, e_X5_refreshTold_46, e_X5_refreshTold_49, e_X5_refreshTold_52, e_X5_refreshTold_53, e_X5_refreshTold_54, e_X5_refreshTold_55, e_X5_refreshTold_58, e_X5_refreshTold_59, e_X5_refreshTold_62, e_X5_refreshTold_65, e_X5_refreshTold_66, e_X5_refreshTold_69, e_X5_refreshTold_70, e_X5_refreshTold_71, e_X5_refreshTold_74, e_X5_refreshTold_75, e_X5_refreshTold_76, e_X5_refreshTold_77, e_X5_refreshTold_80, e_X5_refreshTold_83, hE]
end P22

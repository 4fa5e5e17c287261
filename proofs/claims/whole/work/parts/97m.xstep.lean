/-- the class's number of the verb -/
def vbS (md fm : Nat) : Int32 := if md = 1 then 18 else if md = 2 then -1 else nI (vbX fm)
/-- the saying that is heard, as the class holds it, but for what is wanted and the verb -/
def CB (I : Nat → Nat → Int32) (a : Nat) : PsT → Prop
  | ((_, fm, dn), ((P, O), K, Lk, N, Rl), W) => (I 17 6 = b01 (decide (fm = 8)) ∧ I 17 7 = b01 dn ∧ I 17 8 = 0) ∧ (I 18 4 = nI P ∧ I 18 5 = nI O ∧ (∀ k, k < P → I 19 k = ckd (K k) ∧ I 21 k = oX (N k) ∧ ∀ j, j < 6 → bt (I 20 k) (5 + j) = Lk k j) ∧ ∀ i, i < O → I 22 i = nI (25 + Rl i)) ∧ (I 23 2 = nI W.length ∧ I 23 3 = nI O ∧ RX I a (enX O) W)
def CX (I : Nat → Nat → Int32) (a : Nat) (s : PsT) : Prop := CB I a s ∧ I 17 5 = nI s.1.1 ∧ I 17 4 = vbS s.1.1 s.1.2.1
/-- nothing but the saying has changed -/
def FrG (I I2 : Nat → Nat → Int32) : Prop := (∀ c, c < 17 ∨ 25 < c → I2 c = I c) ∧ I2 17 3 = I 17 3 ∧ I2 17 8 = I 17 8
def aNp (I : Nat → Nat → Int32) (P : Nat) (x : Int32) : Nat → Nat → Int32 := rt_up (rt_up (rt_up (rt_up I 19 P x) 20 P 0) 21 P (-1)) 18 4 (nI (P + 1))
section P66
variable {e : Nat} {I I2 : Nat → Nat → Int32} {L : Nat → Nat → Int64} {R : Nat → Nat → Option Nat} {a b O P k i c nw md fm kd md2 : Nat} {K Rl d : Nat → Nat} {Lk : Nat → Nat → Bool} {N : Nat → Option Nat} {W : List (Nat → Nat)} {dn has pl : Bool} {s s2 : PsT} {x : Int32}
theorem FrG_rf : FrG I I := ⟨fun _ _ => rfl, rfl, rfl⟩
theorem FrG_tr {I1 : Nat → Nat → Int32} (h1 : FrG I I1) (h2 : FrG I1 I2) : FrG I I2 := ⟨fun c hc => by rw [h2.1 c hc, h1.1 c hc], by rw [h2.2.1, h1.2.1], by rw [h2.2.2, h1.2.2]⟩
theorem FrG_up {k : Nat} (h : FrG I I2) (h1 : 17 ≤ c) (h2 : c ≤ 25) (h3 : c ≠ 17 ∨ (k ≠ 3 ∧ k ≠ 8)) : FrG I (rt_up I2 c k x) := by
  refine ⟨fun c2 hc => by rw [rt_up_f (by omega), h.1 c2 hc], ?_⟩
  rcases h3 with g | g
  · rw [rt_up_n1 (by omega), rt_up_n1 (by omega)]; exact h.2
  · rw [rt_up_n2 (by omega), rt_up_n2 (by omega)]; exact h.2
theorem FrG_Np : FrG I (aNp I P x) := FrG_up (FrG_up (FrG_up (FrG_up FrG_rf (by decide) (by decide) (Or.inl (by decide))) (by decide) (by decide) (Or.inl (by decide))) (by decide) (by decide) (Or.inl (by decide))) (by decide) (by decide) (Or.inl (by decide))
theorem x_addNp (hR : RG R a b) (hP : I 18 4 = nI P) (h7 : P < 7) : Ev mX1_addNp 0 [.ref 18, .int x] [] (71 + e, I, L, R) = some (none, (71 + e, aNp I P x, L, R)) := by
  have q7 : (7 : Int32) = nI 7 := rfl
  have c7 : ¬ 7 ≤ P := by omega
  simp (disch := first | exact rt_bo_0 | exact rt_bo_1 | exact ns_float | exact ns_int | exact ns_ref | assumption | omega | (simp (disch := omega) only [ob_18, rg_18_0 hR, ar_19, ln_19, rg_18_1 hR, ar_20, ln_20, rg_18_2 hR, ar_21, ln_21, rg_18_3 hR, ar_22, ln_22, rt_in_nI, Option.isSome_some, Option.getD_some, Bool.or_true, Bool.true_or]; done) | fail) only [e_X1_addNp_0, e_X1_addNp_1, e_X1_addNp_4, e_X1_addNp_6, e_X1_addNp_9, e_X1_addNp_10, e_X1_addNp_13, e_X1_addNp_14, e_X1_addNp_17, e_X1_addNp_18, e_X1_addNp_19, e_X1_addNp_20, e_X1_addNp_23, e_X1_addNp_24, e_X1_addNp_27, e_X1_addNp_28, e_X1_addNp_29, e_X1_addNp_30, e_X1_addNp_33, e_X1_addNp_34, e_X1_addNp_37, e_X1_addNp_38, e_X1_addNp_39, e_X1_addNp_40, e_X1_addNp_41, e_X1_addNp_44, e_X1_addNp_45, e_X1_addNp_46, e_X1_addNp_49, rg_18_0 hR, rg_18_1 hR, rg_18_2 hR, q7, hP, rt_up_n1, q_le, c7, nI_cl, q_s, if_false, Option.getD_some, Option.bind_some, Option.toList_some, Option.toList_none, List.cons_append, List.nil_append]
  rfl
theorem x_addAdj (hR : RG R a b) (hP : I 18 4 = nI P) (h0 : 0 < P) (h7 : P ≤ 7) : Ev mX1_addAdjective 0 [.ref 18, .int x] [] (71 + e, I, L, R) = some (none, (71 + e, rt_up I 20 (P - 1) (I 20 (P - 1) ||| ((1 : Int32) <<< (x &&& 31))), L, R)) := by
  have hz : (nI P ≤ 0) = False := eq_false (nI_nle h0 (by omega))
  have hp := q_p h0
  simp (disch := first | exact rt_bo_0 | exact rt_bo_1 | exact ns_float | exact ns_int | exact ns_ref | assumption | omega | (simp (disch := omega) only [ob_18, rg_18_0 hR, ar_19, ln_19, rg_18_1 hR, ar_20, ln_20, rg_18_2 hR, ar_21, ln_21, rg_18_3 hR, ar_22, ln_22, rt_in_nI, Option.isSome_some, Option.getD_some, Bool.or_true, Bool.true_or]; done) | fail) only [e_X1_addAdjective_0, e_X1_addAdjective_1, e_X1_addAdjective_4, e_X1_addAdjective_7, e_X1_addAdjective_8, e_X1_addAdjective_11, e_X1_addAdjective_12, e_X1_addAdjective_15, e_X1_addAdjective_16, e_X1_addAdjective_17, e_X1_addAdjective_18, e_X1_addAdjective_19, e_X1_addAdjective_20, e_X1_addAdjective_21, e_X1_addAdjective_22, e_X1_addAdjective_23, e_X1_addAdjective_24, rg_18_1 hR, hP, hz, hp, nI_cl, if_false, Option.getD_some, Option.bind_some, Option.toList_some, Option.toList_none, List.cons_append, List.nil_append]
theorem x_setNoun (hR : RG R a b) (hP : I 18 4 = nI P) (h0 : 0 < P) (h7 : P ≤ 7) : Ev mX1_setNoun 0 [.ref 18, .int x] [] (71 + e, I, L, R) = some (none, (71 + e, rt_up I 21 (P - 1) x, L, R)) := by
  have hz : (nI P ≤ 0) = False := eq_false (nI_nle h0 (by omega))
  have hp := q_p h0
  simp (disch := first | exact rt_bo_0 | exact rt_bo_1 | exact ns_float | exact ns_int | exact ns_ref | assumption | omega | (simp (disch := omega) only [ob_18, rg_18_0 hR, ar_19, ln_19, rg_18_1 hR, ar_20, ln_20, rg_18_2 hR, ar_21, ln_21, rg_18_3 hR, ar_22, ln_22, rt_in_nI, Option.isSome_some, Option.getD_some, Bool.or_true, Bool.true_or]; done) | fail) only [e_X1_setNoun_0, e_X1_setNoun_1, e_X1_setNoun_4, e_X1_setNoun_7, e_X1_setNoun_8, e_X1_setNoun_11, e_X1_setNoun_12, e_X1_setNoun_15, e_X1_setNoun_16, e_X1_setNoun_17, e_X1_setNoun_18, e_X1_setNoun_19, rg_18_2 hR, hP, hz, hp, nI_cl, if_false, Option.getD_some, Option.bind_some, Option.toList_some, Option.toList_none, List.cons_append, List.nil_append]
theorem x_addOnward (hR : RG R a b) (hO : I 18 5 = nI O) (h6 : O < 6) : Ev mX1_addOnward 0 [.ref 18, .int x] [] (71 + e, I, L, R) = some (none, (71 + e, rt_up (rt_up I 22 O x) 18 5 (nI (O + 1)), L, R)) := by
  have q6 : (6 : Int32) = nI 6 := rfl
  have c6 : ¬ 6 ≤ O := by omega
  simp (disch := first | exact rt_bo_0 | exact rt_bo_1 | exact ns_float | exact ns_int | exact ns_ref | assumption | omega | (simp (disch := omega) only [ob_18, rg_18_0 hR, ar_19, ln_19, rg_18_1 hR, ar_20, ln_20, rg_18_2 hR, ar_21, ln_21, rg_18_3 hR, ar_22, ln_22, rt_in_nI, Option.isSome_some, Option.getD_some, Bool.or_true, Bool.true_or]; done) | fail) only [e_X1_addOnward_0, e_X1_addOnward_1, e_X1_addOnward_4, e_X1_addOnward_6, e_X1_addOnward_9, e_X1_addOnward_10, e_X1_addOnward_13, e_X1_addOnward_14, e_X1_addOnward_17, e_X1_addOnward_18, e_X1_addOnward_19, e_X1_addOnward_20, e_X1_addOnward_21, e_X1_addOnward_24, e_X1_addOnward_25, e_X1_addOnward_26, e_X1_addOnward_29, rg_18_3 hR, q6, hO, rt_up_n1, q_le, c6, nI_cl, q_s, if_false, Option.getD_some, Option.bind_some, Option.toList_some, Option.toList_none, List.cons_append, List.nil_append]
theorem CB_17 {k : Nat} (h : CB I a s) (ha : a = 24 ∨ a = 25) (hk : k < 6) : CB (rt_up I 17 k x) a s := by
  obtain ⟨⟨md, fm, dn⟩, ⟨⟨P, O⟩, K, Lk, N, Rl⟩, W⟩ := s
  obtain ⟨⟨h1, h2, h3⟩, ⟨h4, h5, h6, h7⟩, ⟨h8, h9, h10⟩⟩ := h
  refine ⟨⟨?_, ?_, ?_⟩, ⟨?_, ?_, fun k hk => ?_, fun i hi => ?_⟩, ⟨?_, ?_, RX_fr h10 (rt_up_f (by omega))⟩⟩
  · rw [rt_up_n2 (by omega)]; exact h1
  · rw [rt_up_n2 (by omega)]; exact h2
  · rw [rt_up_n2 (by omega)]; exact h3
  · rw [rt_up_n1 (by decide)]; exact h4
  · rw [rt_up_n1 (by decide)]; exact h5
  · rw [rt_up_n1 (by decide), rt_up_n1 (by decide), rt_up_f (by decide)]; exact h6 k hk
  · rw [rt_up_n1 (by decide)]; exact h7 i hi
  · rw [rt_up_n1 (by decide)]; exact h8
  · rw [rt_up_n1 (by decide)]; exact h9
theorem CB_P (h : CB I a ((md, fm, dn), ((P, O), K, Lk, N, Rl), W)) (ha : a = 24 ∨ a = 25) : CB (aNp I P (ckd kd)) a (sP kd md2 ((md, fm, dn), ((P, O), K, Lk, N, Rl), W)) := by
  obtain ⟨⟨h1, h2, h3⟩, ⟨h4, h5, h6, h7⟩, ⟨h8, h9, h10⟩⟩ := h
  unfold aNp
  refine ⟨⟨?_, ?_, ?_⟩, ⟨rt_up_eq, ?_, fun k hk => ?_, fun i hi => ?_⟩, ⟨?_, ?_, RX_fr h10 ?_⟩⟩
  · simp (disch := omega) only [rt_up_n1]; exact h1
  · simp (disch := omega) only [rt_up_n1]; exact h2
  · simp (disch := omega) only [rt_up_n1]; exact h3
  · rw [rt_up_n2 (by decide)]; simp (disch := omega) only [rt_up_n1]; exact h5
  · by_cases g : k = P
    · subst g
      refine ⟨?_, ?_, fun j hj => ?_⟩
      · rw [rt_up_n1 (by decide), rt_up_n1 (by decide), rt_up_n1 (by decide), rt_up_eq, syA_s]
      · rw [rt_up_n1 (by decide), rt_up_eq, syA_s]; rfl
      · rw [rt_up_n1 (by decide), rt_up_n1 (by decide), rt_up_eq, syA_s, b_0]
    · obtain ⟨g1, g2, g3⟩ := h6 k (by omega)
      refine ⟨?_, ?_, fun j hj => ?_⟩
      · rw [rt_up_n1 (by decide), rt_up_n1 (by decide), rt_up_n1 (by decide), rt_up_n2 g, syA_n g]; exact g1
      · rw [rt_up_n1 (by decide), rt_up_n2 g, rt_up_n1 (by decide), rt_up_n1 (by decide), syA_n g]; exact g2
      · rw [rt_up_n1 (by decide), rt_up_n1 (by decide), rt_up_n2 g, rt_up_n1 (by decide), syA_n g]; exact g3 j hj
  · simp (disch := omega) only [rt_up_n1]; exact h7 i hi
  · simp (disch := omega) only [rt_up_n1]; exact h8
  · simp (disch := omega) only [rt_up_n1]; exact h9
  · rw [rt_up_f (by omega), rt_up_f (by omega), rt_up_f (by omega), rt_up_f (by omega)]
theorem x_goOnN (hR : RG R a b) (ha : a = 24 ∨ a = 25) (hB : CB I a ((md, fm, dn), ((P, O), K, Lk, N, Rl), W)) (hv : I 17 4 = nI (vbX fm)) (h0 : 0 < P) (h7 : P ≤ 7) (hc : c < 40) : ∃ I2, Ev mX4_goOnN 0 [.ref 17, .int (nI c)] [] (71 + e, I, L, R) = some (some (.int (b01 (sN c ((md, fm, dn), ((P, O), K, Lk, N, Rl), W)).isSome)), (71 + e, I2, L, R)) ∧ FrG I I2 ∧ ∀ s2, sN c ((md, fm, dn), ((P, O), K, Lk, N, Rl), W) = some s2 → CX I2 a s2 := by
  have q5 : (5 : Int32) = nI 5 := rfl
  have q10 : (10 : Int32) = nI 10 := rfl
  have q4 : (4 : Int32) = nI 4 := rfl
  have q29 : (29 : Int32) = nI 29 := rfl
  have q6 : (6 : Int32) = nI 6 := rfl
  have hB0 := hB
  obtain ⟨⟨h1, h2, h3⟩, ⟨h4, h5, h6, h7'⟩, ⟨h8, h9, h10⟩⟩ := hB
  unfold sN
  dsimp only
  by_cases g1 : 5 ≤ c ∧ c ≤ 10
  · rw [if_pos g1]
    have k1 : ¬ c < 5 := by omega
    have k2 : ¬ 10 < c := by omega
    refine ⟨rt_up (rt_up I 20 (P - 1) (I 20 (P - 1) ||| ((1 : Int32) <<< (nI c &&& 31)))) 17 5 (nI 5), ?_, FrG_up (FrG_up FrG_rf (by decide) (by decide) (Or.inl (by decide))) (by decide) (by decide) (by decide), fun s2 hs => ?_⟩
    · simp (disch := first | exact rt_bo_0 | exact rt_bo_1 | exact ns_float | exact ns_int | exact ns_ref | assumption | omega | (simp (disch := omega) only [ob_17, rg_17_0 hR, rg_17_1 hR, rg_17_2 hR, ar_26, ln_26, ob_18, rg_18_0 hR, ar_19, ln_19, rg_18_1 hR, ar_20, ln_20, rg_18_2 hR, ar_21, ln_21, rg_18_3 hR, ar_22, ln_22, rt_in_nI, Option.isSome_some, Option.getD_some, Bool.or_true, Bool.true_or]; done) | fail) only [e_X4_goOnN_0, e_X4_goOnN_1, e_X4_goOnN_2, e_X4_goOnN_5, e_X4_goOnN_6, e_X4_goOnN_8, e_X4_goOnN_11, e_X4_goOnN_12, e_X4_goOnN_15, e_X4_goOnN_16, e_X4_goOnN_19, e_X4_goOnN_20, e_X4_goOnN_21, e_X4_goOnN_24, e_X4_goOnN_25, e_X4_goOnN_26, e_X4_goOnN_27, e_X4_goOnN_28, e_X4_goOnN_31, e_X4_goOnN_32, e_X4_goOnN_34, e_X4_goOnN_37, e_X4_goOnN_38, e_X4_goOnN_39, e_X4_goOnN_40, e_X4_goOnN_43, e_X4_goOnN_44, e_X4_goOnN_47, e_X4_goOnN_48, e_X4_goOnN_50, e_X4_goOnN_53, e_X4_goOnN_54, rg_17_0 hR, x_addAdj hR h4 h0 h7, q5, q10, q_lt, k1, k2, if_false, Option.getD_some, Option.bind_some, Option.toList_some, Option.toList_none, List.cons_append, List.nil_append]
      rfl
    · rw [Option.some.injEq] at hs
      subst hs
      refine ⟨CB_17 (s := ((5, fm, dn), ((P, O), K, syA Lk (P - 1) (fun j => Lk (P - 1) j || decide (j + 5 = c)), N, Rl), W)) ⟨⟨?_, ?_, ?_⟩, ⟨?_, ?_, fun k hk => ?_, fun i hi => ?_⟩, ⟨?_, ?_, RX_fr h10 (rt_up_f (by omega))⟩⟩ ha (by decide), rt_up_eq, ?_⟩
      · rw [rt_up_n1 (by decide)]; exact h1
      · rw [rt_up_n1 (by decide)]; exact h2
      · rw [rt_up_n1 (by decide)]; exact h3
      · rw [rt_up_n1 (by decide)]; exact h4
      · rw [rt_up_n1 (by decide)]; exact h5
      · obtain ⟨g2, g3, g4⟩ := h6 k hk
        refine ⟨by rw [rt_up_n1 (by decide)]; exact g2, by rw [rt_up_n1 (by decide)]; exact g3, fun j hj => ?_⟩
        by_cases g : k = P - 1
        · subst g
          rw [rt_up_eq, syA_s, b_or, g4 j hj, b_one (by omega) (by omega)]
          congr 1
          by_cases gc : j + 5 = c
          · rw [decide_eq_true gc, decide_eq_true (by omega)]
          · rw [decide_eq_false gc, decide_eq_false (by omega)]
        · rw [rt_up_n2 g, syA_n g]; exact g4 j hj
      · rw [rt_up_n1 (by decide)]; exact h7' i hi
      · rw [rt_up_n1 (by decide)]; exact h8
      · rw [rt_up_n1 (by decide)]; exact h9
      · rw [rt_up_n2 (by decide), rt_up_n1 (by decide)]; exact hv
  · rw [if_neg g1]
    by_cases g2 : c < 5 ∨ 29 ≤ c
    · rw [if_pos g2]
      refine ⟨rt_up (rt_up I 21 (P - 1) (nI c)) 17 5 (nI 6), ?_, FrG_up (FrG_up FrG_rf (by decide) (by decide) (Or.inl (by decide))) (by decide) (by decide) (by decide), fun s2 hs => ?_⟩
      · by_cases k1 : c < 5
        · have k2 : c ≤ 4 := by omega
          simp (disch := first | exact rt_bo_0 | exact rt_bo_1 | exact ns_float | exact ns_int | exact ns_ref | assumption | omega | (simp (disch := omega) only [ob_17, rg_17_0 hR, rg_17_1 hR, rg_17_2 hR, ar_26, ln_26, ob_18, rg_18_0 hR, ar_19, ln_19, rg_18_1 hR, ar_20, ln_20, rg_18_2 hR, ar_21, ln_21, rg_18_3 hR, ar_22, ln_22, rt_in_nI, Option.isSome_some, Option.getD_some, Bool.or_true, Bool.true_or]; done) | fail) only [e_X4_goOnN_0, e_X4_goOnN_1, e_X4_goOnN_2, e_X4_goOnN_5, e_X4_goOnN_6, e_X4_goOnN_8, e_X4_goOnN_11, e_X4_goOnN_12, e_X4_goOnN_15, e_X4_goOnN_16, e_X4_goOnN_19, e_X4_goOnN_20, e_X4_goOnN_21, e_X4_goOnN_24, e_X4_goOnN_25, e_X4_goOnN_26, e_X4_goOnN_27, e_X4_goOnN_28, e_X4_goOnN_31, e_X4_goOnN_32, e_X4_goOnN_34, e_X4_goOnN_37, e_X4_goOnN_38, e_X4_goOnN_39, e_X4_goOnN_40, e_X4_goOnN_43, e_X4_goOnN_44, e_X4_goOnN_47, e_X4_goOnN_48, e_X4_goOnN_50, e_X4_goOnN_53, e_X4_goOnN_54, rg_17_0 hR, x_setNoun hR h4 h0 h7, q5, q10, q4, q6, q_lt, q_le, k1, k2, if_true, if_false, Option.getD_some, Option.bind_some, Option.toList_some, Option.toList_none, List.cons_append, List.nil_append]
          rfl
        · have k2 : 10 < c := by omega
          have k3 : ¬ c ≤ 4 := by omega
          have k4 : 29 ≤ c := by omega
          simp (disch := first | exact rt_bo_0 | exact rt_bo_1 | exact ns_float | exact ns_int | exact ns_ref | assumption | omega | (simp (disch := omega) only [ob_17, rg_17_0 hR, rg_17_1 hR, rg_17_2 hR, ar_26, ln_26, ob_18, rg_18_0 hR, ar_19, ln_19, rg_18_1 hR, ar_20, ln_20, rg_18_2 hR, ar_21, ln_21, rg_18_3 hR, ar_22, ln_22, rt_in_nI, Option.isSome_some, Option.getD_some, Bool.or_true, Bool.true_or]; done) | fail) only [e_X4_goOnN_0, e_X4_goOnN_1, e_X4_goOnN_2, e_X4_goOnN_5, e_X4_goOnN_6, e_X4_goOnN_8, e_X4_goOnN_11, e_X4_goOnN_12, e_X4_goOnN_15, e_X4_goOnN_16, e_X4_goOnN_19, e_X4_goOnN_20, e_X4_goOnN_21, e_X4_goOnN_24, e_X4_goOnN_25, e_X4_goOnN_26, e_X4_goOnN_27, e_X4_goOnN_28, e_X4_goOnN_31, e_X4_goOnN_32, e_X4_goOnN_34, e_X4_goOnN_37, e_X4_goOnN_38, e_X4_goOnN_39, e_X4_goOnN_40, e_X4_goOnN_43, e_X4_goOnN_44, e_X4_goOnN_47, e_X4_goOnN_48, e_X4_goOnN_50, e_X4_goOnN_53, e_X4_goOnN_54, rg_17_0 hR, x_setNoun hR h4 h0 h7, q5, q10, q4, q6, q29, q_lt, q_le, k1, k2, k3, k4, if_true, if_false, Option.getD_some, Option.bind_some, Option.toList_some, Option.toList_none, List.cons_append, List.nil_append]
          rfl
      · rw [Option.some.injEq] at hs
        subst hs
        refine ⟨CB_17 (s := ((6, fm, dn), ((P, O), K, Lk, syA N (P - 1) (some c), Rl), W)) ⟨⟨?_, ?_, ?_⟩, ⟨?_, ?_, fun k hk => ?_, fun i hi => ?_⟩, ⟨?_, ?_, RX_fr h10 (rt_up_f (by omega))⟩⟩ ha (by decide), rt_up_eq, ?_⟩
        · rw [rt_up_n1 (by decide)]; exact h1
        · rw [rt_up_n1 (by decide)]; exact h2
        · rw [rt_up_n1 (by decide)]; exact h3
        · rw [rt_up_n1 (by decide)]; exact h4
        · rw [rt_up_n1 (by decide)]; exact h5
        · obtain ⟨g3, g4, g5⟩ := h6 k hk
          refine ⟨by rw [rt_up_n1 (by decide)]; exact g3, ?_, fun j hj => by rw [rt_up_n1 (by decide)]; exact g5 j hj⟩
          by_cases g : k = P - 1
          · subst g
            rw [rt_up_eq, syA_s]; rfl
          · rw [rt_up_n2 g, syA_n g]; exact g4
        · rw [rt_up_n1 (by decide)]; exact h7' i hi
        · rw [rt_up_n1 (by decide)]; exact h8
        · rw [rt_up_n1 (by decide)]; exact h9
        · rw [rt_up_n2 (by decide), rt_up_n1 (by decide)]; exact hv
    · rw [if_neg g2]
      have k1 : ¬ c < 5 := by omega
      have k2 : 10 < c := by omega
      have k3 : ¬ c ≤ 4 := by omega
      have k4 : ¬ 29 ≤ c := by omega
      refine ⟨I, ?_, FrG_rf, fun s2 hs => by cases hs⟩
      simp (disch := first | exact rt_bo_0 | exact rt_bo_1 | exact ns_float | exact ns_int | exact ns_ref | assumption | omega | (simp (disch := omega) only [ob_17, rg_17_0 hR, rg_17_1 hR, rg_17_2 hR, ar_26, ln_26, ob_18, rg_18_0 hR, ar_19, ln_19, rg_18_1 hR, ar_20, ln_20, rg_18_2 hR, ar_21, ln_21, rg_18_3 hR, ar_22, ln_22, rt_in_nI, Option.isSome_some, Option.getD_some, Bool.or_true, Bool.true_or]; done) | fail) only [e_X4_goOnN_0, e_X4_goOnN_1, e_X4_goOnN_2, e_X4_goOnN_5, e_X4_goOnN_6, e_X4_goOnN_8, e_X4_goOnN_11, e_X4_goOnN_12, e_X4_goOnN_15, e_X4_goOnN_16, e_X4_goOnN_19, e_X4_goOnN_20, e_X4_goOnN_21, e_X4_goOnN_24, e_X4_goOnN_25, e_X4_goOnN_26, e_X4_goOnN_27, e_X4_goOnN_28, e_X4_goOnN_31, e_X4_goOnN_32, e_X4_goOnN_34, e_X4_goOnN_37, e_X4_goOnN_38, e_X4_goOnN_39, e_X4_goOnN_40, e_X4_goOnN_43, e_X4_goOnN_44, e_X4_goOnN_47, e_X4_goOnN_48, e_X4_goOnN_50, e_X4_goOnN_53, e_X4_goOnN_54, q5, q10, q4, q29, q_lt, q_le, k1, k2, k3, k4, if_true, if_false, Option.getD_some, Option.bind_some, Option.toList_some, Option.toList_none, List.cons_append, List.nil_append]
      rfl
theorem x_goOnNp (hR : RG R a b) (ha : a = 24 ∨ a = 25) (hB : CB I a ((md, fm, dn), ((P, O), K, Lk, N, Rl), W)) (hv : I 17 4 = nI (vbX fm)) (h7 : P < 7) (hc : c < 40) : ∃ I2, Ev mX4_goOnNp 0 [.ref 17, .int (nI c)] [] (71 + e, I, L, R) = some (some (.int (b01 (decide (21 ≤ c ∧ c ≤ 24)))), (71 + e, I2, L, R)) ∧ FrG I I2 ∧ (21 ≤ c ∧ c ≤ 24 → CX I2 a (sP (kdo c) (if c ≤ 22 then 5 else 6) ((md, fm, dn), ((P, O), K, Lk, N, Rl), W))) := by
  have q21 : (21 : Int32) = nI 21 := rfl
  have q22 : (22 : Int32) = nI 22 := rfl
  have q24 : (24 : Int32) = nI 24 := rfl
  have q5 : (5 : Int32) = nI 5 := rfl
  have q6 : (6 : Int32) = nI 6 := rfl
  have h4 := hB.2.1.1
  by_cases g1 : 21 ≤ c ∧ c ≤ 24
  · rw [decide_eq_true g1]
    have k1 : ¬ c < 21 := by omega
    have k2 : c ≤ 24 := by omega
    have hk : ckd (kdo c) = nI c := by
      have : c = 21 ∨ c = 22 ∨ c = 23 ∨ c = 24 := by omega
      rcases this with h | h | h | h <;> rw [h] <;> rfl
    have hn := x_addNp (e := e) (L := L) (x := nI c) hR h4 h7
    have hP := CB_P (kd := kdo c) (md2 := if c ≤ 22 then 5 else 6) hB ha
    rw [hk] at hP
    refine ⟨rt_up (aNp I P (nI c)) 17 5 (nI (if c ≤ 22 then 5 else 6)), ?_, FrG_up FrG_Np (by decide) (by decide) (by decide), fun _ => ⟨CB_17 hP ha (by decide), rt_up_eq, ?_⟩⟩
    · by_cases k3 : c = 21
      · have k4 : c ≤ 22 := by omega
        rw [if_pos k4]
        have n21 : (nI c = nI 21) = True := eq_true (by rw [k3])
        simp (disch := first | exact rt_bo_0 | exact rt_bo_1 | exact ns_float | exact ns_int | exact ns_ref | assumption | omega | (simp (disch := omega) only [ob_17, rg_17_0 hR, rg_17_1 hR, rg_17_2 hR, ar_26, ln_26, ob_18, rg_18_0 hR, ar_19, ln_19, rg_18_1 hR, ar_20, ln_20, rg_18_2 hR, ar_21, ln_21, rg_18_3 hR, ar_22, ln_22, rt_in_nI, Option.isSome_some, Option.getD_some, Bool.or_true, Bool.true_or]; done) | fail) only [e_X4_goOnNp_0, e_X4_goOnNp_1, e_X4_goOnNp_3, e_X4_goOnNp_6, e_X4_goOnNp_7, e_X4_goOnNp_9, e_X4_goOnNp_12, e_X4_goOnNp_13, e_X4_goOnNp_14, e_X4_goOnNp_15, e_X4_goOnNp_18, e_X4_goOnNp_19, e_X4_goOnNp_22, e_X4_goOnNp_23, e_X4_goOnNp_24, e_X4_goOnNp_26, e_X4_goOnNp_29, e_X4_goOnNp_30, e_X4_goOnNp_32, e_X4_goOnNp_35, e_X4_goOnNp_36, e_X4_goOnNp_39, e_X4_goOnNp_41, e_X4_goOnNp_44, e_X4_goOnNp_45, rg_17_0 hR, hn, q21, q24, q22, q5, q_lt, q_le, n21, k1, k2, if_true, if_false, Option.getD_some, Option.bind_some, Option.toList_some, Option.toList_none, List.cons_append, List.nil_append]
        rfl
      · by_cases k4 : c = 22
        · rw [if_pos (show c ≤ 22 by omega)]
          have n21 : (nI c = nI 21) = False := by rw [q_eq (by omega) (by omega)]; exact eq_false k3
          have n22 : (nI c = nI 22) = True := eq_true (by rw [k4])
          simp (disch := first | exact rt_bo_0 | exact rt_bo_1 | exact ns_float | exact ns_int | exact ns_ref | assumption | omega | (simp (disch := omega) only [ob_17, rg_17_0 hR, rg_17_1 hR, rg_17_2 hR, ar_26, ln_26, ob_18, rg_18_0 hR, ar_19, ln_19, rg_18_1 hR, ar_20, ln_20, rg_18_2 hR, ar_21, ln_21, rg_18_3 hR, ar_22, ln_22, rt_in_nI, Option.isSome_some, Option.getD_some, Bool.or_true, Bool.true_or]; done) | fail) only [e_X4_goOnNp_0, e_X4_goOnNp_1, e_X4_goOnNp_3, e_X4_goOnNp_6, e_X4_goOnNp_7, e_X4_goOnNp_9, e_X4_goOnNp_12, e_X4_goOnNp_13, e_X4_goOnNp_14, e_X4_goOnNp_15, e_X4_goOnNp_18, e_X4_goOnNp_19, e_X4_goOnNp_22, e_X4_goOnNp_23, e_X4_goOnNp_24, e_X4_goOnNp_26, e_X4_goOnNp_29, e_X4_goOnNp_30, e_X4_goOnNp_32, e_X4_goOnNp_35, e_X4_goOnNp_36, e_X4_goOnNp_39, e_X4_goOnNp_41, e_X4_goOnNp_44, e_X4_goOnNp_45, rg_17_0 hR, hn, q21, q24, q22, q5, q_lt, q_le, n21, n22, k1, k2, if_true, if_false, Option.getD_some, Option.bind_some, Option.toList_some, Option.toList_none, List.cons_append, List.nil_append]
          rfl
        · rw [if_neg (show ¬ c ≤ 22 by omega)]
          simp (disch := first | exact rt_bo_0 | exact rt_bo_1 | exact ns_float | exact ns_int | exact ns_ref | assumption | omega | (simp (disch := omega) only [ob_17, rg_17_0 hR, rg_17_1 hR, rg_17_2 hR, ar_26, ln_26, ob_18, rg_18_0 hR, ar_19, ln_19, rg_18_1 hR, ar_20, ln_20, rg_18_2 hR, ar_21, ln_21, rg_18_3 hR, ar_22, ln_22, rt_in_nI, Option.isSome_some, Option.getD_some, Bool.or_true, Bool.true_or]; done) | fail) only [e_X4_goOnNp_0, e_X4_goOnNp_1, e_X4_goOnNp_3, e_X4_goOnNp_6, e_X4_goOnNp_7, e_X4_goOnNp_9, e_X4_goOnNp_12, e_X4_goOnNp_13, e_X4_goOnNp_14, e_X4_goOnNp_15, e_X4_goOnNp_18, e_X4_goOnNp_19, e_X4_goOnNp_22, e_X4_goOnNp_23, e_X4_goOnNp_24, e_X4_goOnNp_26, e_X4_goOnNp_29, e_X4_goOnNp_30, e_X4_goOnNp_32, e_X4_goOnNp_35, e_X4_goOnNp_36, e_X4_goOnNp_39, e_X4_goOnNp_41, e_X4_goOnNp_44, e_X4_goOnNp_45, rg_17_0 hR, hn, q21, q24, q22, q6, q_lt, q_le, q_eq, k1, k2, k3, k4, if_true, if_false, Option.getD_some, Option.bind_some, Option.toList_some, Option.toList_none, List.cons_append, List.nil_append]
          rfl
    · rw [rt_up_n2 (by decide)]
      unfold aNp
      simp (disch := omega) only [rt_up_n1]
      rw [hv]
      show nI (vbX fm) = vbS (if c ≤ 22 then 5 else 6) fm
      by_cases k4 : c ≤ 22
      · rw [if_pos k4]; rfl
      · rw [if_neg k4]; rfl
  · rw [decide_eq_false g1]
    refine ⟨I, ?_, FrG_rf, fun h => absurd h g1⟩
    by_cases k1 : c < 21
    · simp (disch := first | exact rt_bo_0 | exact rt_bo_1 | exact ns_float | exact ns_int | exact ns_ref | assumption | omega | (simp (disch := omega) only [ob_17, rg_17_0 hR, rg_17_1 hR, rg_17_2 hR, ar_26, ln_26, ob_18, rg_18_0 hR, ar_19, ln_19, rg_18_1 hR, ar_20, ln_20, rg_18_2 hR, ar_21, ln_21, rg_18_3 hR, ar_22, ln_22, rt_in_nI, Option.isSome_some, Option.getD_some, Bool.or_true, Bool.true_or]; done) | fail) only [e_X4_goOnNp_0, e_X4_goOnNp_1, e_X4_goOnNp_3, e_X4_goOnNp_6, e_X4_goOnNp_7, e_X4_goOnNp_9, e_X4_goOnNp_12, e_X4_goOnNp_13, e_X4_goOnNp_14, e_X4_goOnNp_15, e_X4_goOnNp_18, e_X4_goOnNp_19, e_X4_goOnNp_22, e_X4_goOnNp_23, e_X4_goOnNp_24, e_X4_goOnNp_26, e_X4_goOnNp_29, e_X4_goOnNp_30, e_X4_goOnNp_32, e_X4_goOnNp_35, e_X4_goOnNp_36, e_X4_goOnNp_39, e_X4_goOnNp_41, e_X4_goOnNp_44, e_X4_goOnNp_45, q21, q_lt, k1, if_true, Option.getD_some, Option.bind_some, Option.toList_some, Option.toList_none, List.cons_append, List.nil_append]
      rfl
    · have k2 : ¬ c ≤ 24 := by omega
      simp (disch := first | exact rt_bo_0 | exact rt_bo_1 | exact ns_float | exact ns_int | exact ns_ref | assumption | omega | (simp (disch := omega) only [ob_17, rg_17_0 hR, rg_17_1 hR, rg_17_2 hR, ar_26, ln_26, ob_18, rg_18_0 hR, ar_19, ln_19, rg_18_1 hR, ar_20, ln_20, rg_18_2 hR, ar_21, ln_21, rg_18_3 hR, ar_22, ln_22, rt_in_nI, Option.isSome_some, Option.getD_some, Bool.or_true, Bool.true_or]; done) | fail) only [e_X4_goOnNp_0, e_X4_goOnNp_1, e_X4_goOnNp_3, e_X4_goOnNp_6, e_X4_goOnNp_7, e_X4_goOnNp_9, e_X4_goOnNp_12, e_X4_goOnNp_13, e_X4_goOnNp_14, e_X4_goOnNp_15, e_X4_goOnNp_18, e_X4_goOnNp_19, e_X4_goOnNp_22, e_X4_goOnNp_23, e_X4_goOnNp_24, e_X4_goOnNp_26, e_X4_goOnNp_29, e_X4_goOnNp_30, e_X4_goOnNp_32, e_X4_goOnNp_35, e_X4_goOnNp_36, e_X4_goOnNp_39, e_X4_goOnNp_41, e_X4_goOnNp_44, e_X4_goOnNp_45, q21, q24, q_lt, q_le, k1, k2, if_false, Option.getD_some, Option.bind_some, Option.toList_some, Option.toList_none, List.cons_append, List.nil_append]
      rfl
theorem x_beginBare {v w : Nat} (hR : RG R a b) (ha : a = 24 ∨ a = 25) (hB : CB I a ((md, fm, dn), ((P, O), K, Lk, N, Rl), W)) (hv : v = vbX fm) (h7 : P < 7) (hw : w = 4 ∨ w = 5) : ∃ I2, Ev mX4_beginBare 0 [.ref 17, .int (nI v), .int (nI w)] [] (71 + e, I, L, R) = some (some (.int 1), (71 + e, I2, L, R)) ∧ FrG I I2 ∧ CX I2 a (sP 4 w ((md, fm, dn), ((P, O), K, Lk, N, Rl), W)) := by
  have hB1 := CB_17 (x := nI v) (k := 4) hB ha (by decide)
  have h4 := hB1.2.1.1
  have hn := x_addNp (e := e) (L := L) (x := -1) hR h4 h7
  have hP := CB_P (kd := 4) (md2 := w) hB1 ha
  rw [show ckd 4 = -1 from rfl] at hP
  refine ⟨rt_up (aNp (rt_up I 17 4 (nI v)) P (-1)) 17 5 (nI w), ?_, FrG_up (FrG_tr (FrG_up FrG_rf (by decide) (by decide) (by decide)) FrG_Np) (by decide) (by decide) (by decide), CB_17 hP ha (by decide), rt_up_eq, ?_⟩
  · simp (disch := first | exact rt_bo_0 | exact rt_bo_1 | exact ns_float | exact ns_int | exact ns_ref | assumption | omega | (simp (disch := omega) only [ob_17, rg_17_0 hR, rg_17_1 hR, rg_17_2 hR, ar_26, ln_26, ob_18, rg_18_0 hR, ar_19, ln_19, rg_18_1 hR, ar_20, ln_20, rg_18_2 hR, ar_21, ln_21, rg_18_3 hR, ar_22, ln_22, rt_in_nI, Option.isSome_some, Option.getD_some, Bool.or_true, Bool.true_or]; done) | fail) only [e_X4_beginBare_0, e_X4_beginBare_1, e_X4_beginBare_2, e_X4_beginBare_5, e_X4_beginBare_6, e_X4_beginBare_9, e_X4_beginBare_10, e_X4_beginBare_13, e_X4_beginBare_14, e_X4_beginBare_15, e_X4_beginBare_18, e_X4_beginBare_19, rg_17_0 hR, hn, Option.getD_some, Option.bind_some, Option.toList_some, Option.toList_none, List.cons_append, List.nil_append]
  · rw [rt_up_n2 (by decide)]
    unfold aNp
    simp (disch := omega) only [rt_up_n1]
    rw [rt_up_eq, hv]
    show nI (vbX fm) = vbS w fm
    rcases hw with g | g <;> rw [g] <;> rfl
theorem vb_eq (hf : fm < 9) {v : Nat} (hv : v < 100) : (nI (vbX fm) = nI v) = (vbX fm = v) := by
  have : vbX fm < 20 := by unfold vbX; split; omega; split <;> omega
  rw [q_eq (by omega) (by omega)]
theorem vb_11 (hf : fm < 9) : (vbX fm = 11) = (fm = 0) := by
  apply propext; unfold vbX; split; omega; split <;> omega
theorem vb_14 (hf : fm < 9) : (vbX fm = 14) = (fm = 3) := by
  apply propext; unfold vbX; split; omega; split <;> omega
theorem x_isOn (hc : c < 40) {h : rt_H} : Ev mX4_isOnward 0 [.int (nI c)] [] h = some (some (.int (b01 (decide (25 ≤ c ∧ c ≤ 27)))), h) := by
  have q25 : (25 : Int32) = nI 25 := rfl
  have q26 : (26 : Int32) = nI 26 := rfl
  have q27 : (27 : Int32) = nI 27 := rfl
  by_cases g1 : c = 25
  · rw [decide_eq_true (by omega)]
    subst g1
    simp (disch := first | exact rt_bo_0 | exact rt_bo_1 | exact ns_float | exact ns_int | exact ns_ref | assumption | omega | (simp (disch := omega) only [rt_in_0, rt_in_nI, Option.isSome_some, Option.getD_some, Bool.or_true, Bool.true_or]; done) | fail) only [e_X4_isOnward_0, e_X4_isOnward_1, e_X4_isOnward_3, e_X4_isOnward_6, e_X4_isOnward_7, e_X4_isOnward_9, e_X4_isOnward_12, e_X4_isOnward_13, e_X4_isOnward_15, e_X4_isOnward_18, e_X4_isOnward_19, e_X4_isOnward_22, e_X4_isOnward_23, q25, if_true]
    rfl
  · by_cases g2 : c = 26
    · rw [decide_eq_true (by omega)]
      subst g2
      have n1 : ¬ (26 : Nat) = 25 := by decide
      simp (disch := first | exact rt_bo_0 | exact rt_bo_1 | exact ns_float | exact ns_int | exact ns_ref | assumption | omega | (simp (disch := omega) only [rt_in_0, rt_in_nI, Option.isSome_some, Option.getD_some, Bool.or_true, Bool.true_or]; done) | fail) only [e_X4_isOnward_0, e_X4_isOnward_1, e_X4_isOnward_3, e_X4_isOnward_6, e_X4_isOnward_7, e_X4_isOnward_9, e_X4_isOnward_12, e_X4_isOnward_13, e_X4_isOnward_15, e_X4_isOnward_18, e_X4_isOnward_19, e_X4_isOnward_22, e_X4_isOnward_23, q25, q26, q_eq, n1, if_true, if_false]
      rfl
    · by_cases g3 : c = 27
      · rw [decide_eq_true (by omega)]
        subst g3
        have n1 : ¬ (27 : Nat) = 25 := by decide
        have n2 : ¬ (27 : Nat) = 26 := by decide
        simp (disch := first | exact rt_bo_0 | exact rt_bo_1 | exact ns_float | exact ns_int | exact ns_ref | assumption | omega | (simp (disch := omega) only [rt_in_0, rt_in_nI, Option.isSome_some, Option.getD_some, Bool.or_true, Bool.true_or]; done) | fail) only [e_X4_isOnward_0, e_X4_isOnward_1, e_X4_isOnward_3, e_X4_isOnward_6, e_X4_isOnward_7, e_X4_isOnward_9, e_X4_isOnward_12, e_X4_isOnward_13, e_X4_isOnward_15, e_X4_isOnward_18, e_X4_isOnward_19, e_X4_isOnward_22, e_X4_isOnward_23, q25, q26, q27, q_eq, n1, n2, if_true, if_false]
        rfl
      · rw [decide_eq_false (by omega)]
        simp (disch := first | exact rt_bo_0 | exact rt_bo_1 | exact ns_float | exact ns_int | exact ns_ref | assumption | omega | (simp (disch := omega) only [rt_in_0, rt_in_nI, Option.isSome_some, Option.getD_some, Bool.or_true, Bool.true_or]; done) | fail) only [e_X4_isOnward_0, e_X4_isOnward_1, e_X4_isOnward_3, e_X4_isOnward_6, e_X4_isOnward_7, e_X4_isOnward_9, e_X4_isOnward_12, e_X4_isOnward_13, e_X4_isOnward_15, e_X4_isOnward_18, e_X4_isOnward_19, e_X4_isOnward_22, e_X4_isOnward_23, q25, q26, q27, q_eq, g1, g2, g3, if_true, if_false]
        rfl
/-- a saying behind an NP -/
theorem x_goOnBehind (hR : RG R a b) (ha : a = 24 ∨ a = 25) (hb : b = 24 ∨ b = 25) (hab : a ≠ b) (hX : CX I a ((6, fm, dn), ((P, O), K, Lk, N, Rl), W)) (hS : SW nw ((6, fm, dn), ((P, O), K, Lk, N, Rl), W)) (hO : 25 ≤ c → c ≤ 27 → O ≤ 5) (hc : c < 40) (hnw : nw ≤ 8) : ∃ I2 R2 a2 b2, Ev mX4_goOnBehindNp 0 [.ref 17, .int (nI c), .float 0] [] (71 + e, I, L, R) = some (some (.int (b01 (sM c ((6, fm, dn), ((P, O), K, Lk, N, Rl), W)).isSome)), (71 + e, I2, L, R2)) ∧ FrG I I2 ∧ RG R2 a2 b2 ∧ (∀ c, c ≠ 23 → R2 c = R c) ∧ ((a2 = a ∧ b2 = b) ∨ (a2 = b ∧ b2 = a)) ∧ ∀ s2, sM c ((6, fm, dn), ((P, O), K, Lk, N, Rl), W) = some s2 → CX I2 a2 s2 := by
  obtain ⟨hB, hw, hv⟩ := hX
  obtain ⟨⟨-, -, a3, a4⟩, hP7, hl⟩ := SW_a hS
  obtain ⟨hf2, hPO, hdn⟩ := SW_6 hS rfl
  obtain ⟨-, -, -, ⟨d1, -, d3, -, -⟩, e1, e2, e3, -, -⟩ := hS
  change I 17 4 = nI (vbX fm) at hv
  have q28 : (28 : Int32) = nI 28 := rfl
  have q11 : (11 : Int32) = nI 11 := rfl
  have q14 : (14 : Int32) = nI 14 := rfl
  have q27 : (27 : Int32) = nI 27 := rfl
  have q3 : (3 : Int32) = nI 3 := rfl
  have q7 : (7 : Int32) = nI 7 := rfl
  have b0 : b01 false = 0 := rfl
  have b1 : b01 true = 1 := rfl
  have hv11 : (nI (vbX fm) = nI 11) = (fm = 0) := by rw [vb_eq a3 (by decide), vb_11 a3]
  have hv14 : (nI (vbX fm) = nI 14) = (fm = 3) := by rw [vb_eq a3 (by decide), vb_14 a3]
  unfold sM
  dsimp only
  by_cases g1 : c = 28
  · subst g1
    simp only [if_true]
    have hB1 := CB_17 (x := nI 7) (k := 5) hB ha (by decide)
    by_cases g2 : fm = 0
    · have hv11t : (nI (vbX fm) = nI 11) = True := by rw [hv11]; exact eq_true g2
      have hB0 := hB
      obtain ⟨⟨h1, h2, h3⟩, ⟨h4, h5, h6, h7'⟩, ⟨h8, h9, h10⟩⟩ := hB0
      obtain ⟨I2, k1, k2, k3, k4, k5⟩ := x_keep (e := e) (L := L) (has := false) (I := rt_up (rt_up I 17 7 1) 17 5 (nI 7)) (W := W) (K := K) hR ha a4 (by rw [rt_up_n1 (by decide), rt_up_n1 (by decide)]; exact h8) (by rw [rt_up_n1 (by decide), rt_up_n1 (by decide)]; exact h9) hl e2 (RX_fr h10 (by rw [rt_up_f (by omega), rt_up_f (by omega)]))
      rw [b0] at k1
      refine ⟨I2, R, a, b, ?_, ⟨fun c hc => by rw [k2 c (by omega) (by omega), rt_up_f (by omega), rt_up_f (by omega)], by rw [k2 17 (by omega) (by decide), rt_up_n2 (by decide), rt_up_n2 (by decide)], by rw [k2 17 (by omega) (by decide), rt_up_n2 (by decide), rt_up_n2 (by decide)]⟩, hR, fun _ _ => rfl, Or.inl ⟨rfl, rfl⟩, fun s2 hs => ?_⟩
      · have vv : (rt_up (rt_up I 17 7 1) 17 5 (nI 7)) 17 4 = nI (vbX fm) := by rw [rt_up_n2 (by decide), rt_up_n2 (by decide)]; exact hv
        by_cases g3 : 0 < (syF false O W).length
        · rw [if_pos ⟨g2, g3⟩]
          rw [decide_eq_true g3, b1] at k1
          simp (disch := first | exact rt_bo_0 | exact rt_bo_1 | exact ns_float | exact ns_int | exact ns_ref | assumption | omega | (simp (disch := omega) only [ob_17, rg_17_0 hR, rg_17_1 hR, rg_17_2 hR, ar_26, ln_26, ob_23, rg_23_0 hR, rg_23_1 hR, rt_in_nI, Option.isSome_some, Option.getD_some, Bool.or_true, Bool.true_or]; done) | fail) only [e_X4_goOnBehindNp_0, e_X4_goOnBehindNp_1, e_X4_goOnBehindNp_3, e_X4_goOnBehindNp_6, e_X4_goOnBehindNp_7, e_X4_goOnBehindNp_8, e_X4_goOnBehindNp_11, e_X4_goOnBehindNp_12, e_X4_goOnBehindNp_14, e_X4_goOnBehindNp_17, e_X4_goOnBehindNp_18, e_X4_goOnBehindNp_21, e_X4_goOnBehindNp_23, e_X4_goOnBehindNp_26, e_X4_goOnBehindNp_27, e_X4_goOnBehindNp_30, e_X4_goOnBehindNp_31, e_X4_goOnBehindNp_34, e_X4_goOnBehindNp_37, e_X4_goOnBehindNp_38, e_X4_goOnBehindNp_41, e_X4_goOnBehindNp_42, e_X4_goOnBehindNp_43, e_X4_goOnBehindNp_44, e_X4_goOnBehindNp_47, e_X4_goOnBehindNp_50, e_X4_goOnBehindNp_51, e_X4_goOnBehindNp_52, e_X4_goOnBehindNp_53, e_X4_goOnBehindNp_56, e_X4_goOnBehindNp_58, e_X4_goOnBehindNp_61, e_X4_goOnBehindNp_62, e_X4_goOnBehindNp_65, e_X4_goOnBehindNp_67, e_X4_goOnBehindNp_70, e_X4_goOnBehindNp_71, e_X4_goOnBehindNp_73, e_X4_goOnBehindNp_76, e_X4_goOnBehindNp_77, e_X4_goOnBehindNp_80, e_X4_goOnBehindNp_81, e_X4_goOnBehindNp_82, e_X4_goOnBehindNp_83, e_X4_goOnBehindNp_86, e_X4_goOnBehindNp_87, e_X4_goOnBehindNp_90, e_X4_goOnBehindNp_91, e_X4_goOnBehindNp_94, e_X4_goOnBehindNp_97, e_X4_goOnBehindNp_98, e_X4_goOnBehindNp_99, e_X4_goOnBehindNp_100, e_X4_goOnBehindNp_103, e_X4_goOnBehindNp_104, e_X4_goOnBehindNp_107, e_X4_goOnBehindNp_108, e_X4_goOnBehindNp_109, e_X4_goOnBehindNp_112, e_X4_goOnBehindNp_113, rg_17_1 hR, q28, q7, q11, vv, hv11t, k1, q_10, if_true, if_false, Option.getD_some, Option.bind_some, Option.toList_some, Option.toList_none, List.cons_append, List.nil_append]
          rfl
        · rw [if_neg (fun h => g3 h.2)]
          rw [decide_eq_false g3, b0] at k1
          simp (disch := first | exact rt_bo_0 | exact rt_bo_1 | exact ns_float | exact ns_int | exact ns_ref | assumption | omega | (simp (disch := omega) only [ob_17, rg_17_0 hR, rg_17_1 hR, rg_17_2 hR, ar_26, ln_26, ob_23, rg_23_0 hR, rg_23_1 hR, rt_in_nI, Option.isSome_some, Option.getD_some, Bool.or_true, Bool.true_or]; done) | fail) only [e_X4_goOnBehindNp_0, e_X4_goOnBehindNp_1, e_X4_goOnBehindNp_3, e_X4_goOnBehindNp_6, e_X4_goOnBehindNp_7, e_X4_goOnBehindNp_8, e_X4_goOnBehindNp_11, e_X4_goOnBehindNp_12, e_X4_goOnBehindNp_14, e_X4_goOnBehindNp_17, e_X4_goOnBehindNp_18, e_X4_goOnBehindNp_21, e_X4_goOnBehindNp_23, e_X4_goOnBehindNp_26, e_X4_goOnBehindNp_27, e_X4_goOnBehindNp_30, e_X4_goOnBehindNp_31, e_X4_goOnBehindNp_34, e_X4_goOnBehindNp_37, e_X4_goOnBehindNp_38, e_X4_goOnBehindNp_41, e_X4_goOnBehindNp_42, e_X4_goOnBehindNp_43, e_X4_goOnBehindNp_44, e_X4_goOnBehindNp_47, e_X4_goOnBehindNp_50, e_X4_goOnBehindNp_51, e_X4_goOnBehindNp_52, e_X4_goOnBehindNp_53, e_X4_goOnBehindNp_56, e_X4_goOnBehindNp_58, e_X4_goOnBehindNp_61, e_X4_goOnBehindNp_62, e_X4_goOnBehindNp_65, e_X4_goOnBehindNp_67, e_X4_goOnBehindNp_70, e_X4_goOnBehindNp_71, e_X4_goOnBehindNp_73, e_X4_goOnBehindNp_76, e_X4_goOnBehindNp_77, e_X4_goOnBehindNp_80, e_X4_goOnBehindNp_81, e_X4_goOnBehindNp_82, e_X4_goOnBehindNp_83, e_X4_goOnBehindNp_86, e_X4_goOnBehindNp_87, e_X4_goOnBehindNp_90, e_X4_goOnBehindNp_91, e_X4_goOnBehindNp_94, e_X4_goOnBehindNp_97, e_X4_goOnBehindNp_98, e_X4_goOnBehindNp_99, e_X4_goOnBehindNp_100, e_X4_goOnBehindNp_103, e_X4_goOnBehindNp_104, e_X4_goOnBehindNp_107, e_X4_goOnBehindNp_108, e_X4_goOnBehindNp_109, e_X4_goOnBehindNp_112, e_X4_goOnBehindNp_113, rg_17_1 hR, q28, q7, q11, vv, hv11t, k1, q_00, if_true, if_false, Option.getD_some, Option.bind_some, Option.toList_some, Option.toList_none, List.cons_append, List.nil_append]
          rfl
      · by_cases g3 : 0 < (syF false O W).length
        · rw [if_pos ⟨g2, g3⟩, Option.some.injEq] at hs
          subst hs
          have f17 : ∀ k, I2 17 k = (rt_up (rt_up I 17 7 1) 17 5 (nI 7)) 17 k := fun k => by rw [k2 17 (by omega) (by decide)]
          have f18 : ∀ c, 18 ≤ c → c ≤ 22 → I2 c = I c := fun c h1 h2 => by rw [k2 c (by omega) (by omega), rt_up_f (by omega), rt_up_f (by omega)]
          refine ⟨⟨⟨?_, ?_, ?_⟩, ⟨?_, ?_, fun k hk => ?_, fun i hi => ?_⟩, ⟨k3, k4, k5⟩⟩, ?_, ?_⟩
          · rw [f17, rt_up_n2 (by decide), rt_up_n2 (by decide)]; exact h1
          · rw [f17, rt_up_n2 (by decide), rt_up_eq]; rfl
          · rw [f17, rt_up_n2 (by decide), rt_up_n2 (by decide)]; exact h3
          · rw [f18 18 (by decide) (by decide)]; exact h4
          · rw [f18 18 (by decide) (by decide)]; exact h5
          · rw [f18 19 (by decide) (by decide), f18 20 (by decide) (by decide), f18 21 (by decide) (by decide)]; exact h6 k hk
          · rw [f18 22 (by decide) (by decide)]; exact h7' i hi
          · rw [f17, rt_up_eq]
          · rw [f17, rt_up_n2 (by decide), rt_up_n2 (by decide)]; exact hv
        · rw [if_neg (fun h => g3 h.2)] at hs; cases hs
    · refine ⟨rt_up (rt_up I 17 7 1) 17 5 (nI 7), R, a, b, ?_, FrG_up (FrG_up FrG_rf (by decide) (by decide) (by decide)) (by decide) (by decide) (by decide), hR, fun _ _ => rfl, Or.inl ⟨rfl, rfl⟩, fun s2 hs => ?_⟩
      · rw [if_neg (fun h => g2 h.1)]
        have vv : (rt_up (rt_up I 17 7 1) 17 5 (nI 7)) 17 4 = nI (vbX fm) := by rw [rt_up_n2 (by decide), rt_up_n2 (by decide)]; exact hv
        have hv11f : (nI (vbX fm) = nI 11) = False := by rw [hv11]; exact eq_false g2
        simp (disch := first | exact rt_bo_0 | exact rt_bo_1 | exact ns_float | exact ns_int | exact ns_ref | assumption | omega | (simp (disch := omega) only [ob_17, rg_17_0 hR, rg_17_1 hR, rg_17_2 hR, ar_26, ln_26, rt_in_nI, Option.isSome_some, Option.getD_some, Bool.or_true, Bool.true_or]; done) | fail) only [e_X4_goOnBehindNp_0, e_X4_goOnBehindNp_1, e_X4_goOnBehindNp_3, e_X4_goOnBehindNp_6, e_X4_goOnBehindNp_7, e_X4_goOnBehindNp_8, e_X4_goOnBehindNp_11, e_X4_goOnBehindNp_12, e_X4_goOnBehindNp_14, e_X4_goOnBehindNp_17, e_X4_goOnBehindNp_18, e_X4_goOnBehindNp_21, e_X4_goOnBehindNp_23, e_X4_goOnBehindNp_26, e_X4_goOnBehindNp_27, e_X4_goOnBehindNp_30, e_X4_goOnBehindNp_31, e_X4_goOnBehindNp_34, e_X4_goOnBehindNp_37, e_X4_goOnBehindNp_38, e_X4_goOnBehindNp_41, e_X4_goOnBehindNp_42, e_X4_goOnBehindNp_43, e_X4_goOnBehindNp_44, e_X4_goOnBehindNp_47, e_X4_goOnBehindNp_50, e_X4_goOnBehindNp_51, e_X4_goOnBehindNp_52, e_X4_goOnBehindNp_53, e_X4_goOnBehindNp_56, e_X4_goOnBehindNp_58, e_X4_goOnBehindNp_61, e_X4_goOnBehindNp_62, e_X4_goOnBehindNp_65, e_X4_goOnBehindNp_67, e_X4_goOnBehindNp_70, e_X4_goOnBehindNp_71, e_X4_goOnBehindNp_73, e_X4_goOnBehindNp_76, e_X4_goOnBehindNp_77, e_X4_goOnBehindNp_80, e_X4_goOnBehindNp_81, e_X4_goOnBehindNp_82, e_X4_goOnBehindNp_83, e_X4_goOnBehindNp_86, e_X4_goOnBehindNp_87, e_X4_goOnBehindNp_90, e_X4_goOnBehindNp_91, e_X4_goOnBehindNp_94, e_X4_goOnBehindNp_97, e_X4_goOnBehindNp_98, e_X4_goOnBehindNp_99, e_X4_goOnBehindNp_100, e_X4_goOnBehindNp_103, e_X4_goOnBehindNp_104, e_X4_goOnBehindNp_107, e_X4_goOnBehindNp_108, e_X4_goOnBehindNp_109, e_X4_goOnBehindNp_112, e_X4_goOnBehindNp_113, q28, q7, q11, vv, hv11f, if_true, if_false, Option.getD_some, Option.bind_some, Option.toList_some, Option.toList_none, List.cons_append, List.nil_append]
        rfl
      · rw [if_neg (fun h => g2 h.1)] at hs; cases hs
  · simp only [if_neg g1]
    have ho := x_isOn (c := c) hc (h := (71 + e, I, L, R))
    by_cases g2 : 25 ≤ c ∧ c ≤ 27
    · rw [decide_eq_true g2, b1] at ho
      simp only [if_pos g2]
      have hO5 := hO g2.1 g2.2
      have hB0 := hB
      obtain ⟨⟨h1, h2, h3⟩, ⟨h4, h5, h6, h7'⟩, ⟨h8, h9, h10⟩⟩ := hB0
      have hN : ∀ k, k < P → (I 21 k = -1) = (K k < 2) := by
        intro k hk
        obtain ⟨n1, n2⟩ := d3 k hk (Or.inr ⟨by decide, by decide⟩)
        rw [(h6 k hk).2.1]
        by_cases gk : K k < 2
        · rw [n1 gk, eq_true gk]; exact eq_true rfl
        · obtain ⟨w, w1, w2⟩ := n2 (by omega)
          rw [w1, eq_false gk]
          exact q_e1 (by omega)
      have hlen : (syW K (syL fm (c - 25)) O W).length ≤ 264 := by
        have := syW_sum (K := K) (pl := syL fm (c - 25)) (W := W) (m := 6 - (O + 1)) hO5
        rw [show 6 - (O + 1) + 1 = 6 - O by omega] at this
        exact SW_len (Nat.le_trans this e3)
      obtain ⟨I2, R2, k1, k2, k3, k4, k5, k6, k7⟩ := x_extend (e := e) (L := L) (pl := syL fm (c - 25)) hR ha hb hab hO5 h4 hP7 (by omega) hN h8 h9 hl e2 h10 hlen
      have fr : FrG I I2 := ⟨fun c hc => k4 c (by omega) (by omega), by rw [k4 17 (by omega) (by decide)], by rw [k4 17 (by omega) (by decide)]⟩
      have stA : Ev mX4_goOnBehindNp 0 [.ref 17, .int (nI c), .float 0] [] (71 + e, I, L, R) = Ev mX4_goOnBehindNp 82 [.ref 17, .int (nI c), .int (b01 (syL fm (c - 25)))] [] (71 + e, I, L, R) := by
        unfold syL
        have n28 : (nI c = nI 28) = False := by rw [q_eq (by omega) (by omega)]; exact eq_false g1
        by_cases f3 : fm = 3
        · rw [decide_eq_true f3, Bool.or_true, b1]
          rw [eq_true f3] at hv14
          simp (disch := first | exact rt_bo_0 | exact rt_bo_1 | exact ns_float | exact ns_int | exact ns_ref | assumption | omega | (simp (disch := omega) only [ob_17, rg_17_0 hR, rg_17_1 hR, rg_17_2 hR, ar_26, ln_26, rt_in_nI, Option.isSome_some, Option.getD_some, Bool.or_true, Bool.true_or]; done) | fail) only [e_X4_goOnBehindNp_0, e_X4_goOnBehindNp_1, e_X4_goOnBehindNp_3, e_X4_goOnBehindNp_6, e_X4_goOnBehindNp_7, e_X4_goOnBehindNp_8, e_X4_goOnBehindNp_11, e_X4_goOnBehindNp_12, e_X4_goOnBehindNp_14, e_X4_goOnBehindNp_17, e_X4_goOnBehindNp_18, e_X4_goOnBehindNp_21, e_X4_goOnBehindNp_23, e_X4_goOnBehindNp_26, e_X4_goOnBehindNp_27, e_X4_goOnBehindNp_30, e_X4_goOnBehindNp_31, e_X4_goOnBehindNp_34, e_X4_goOnBehindNp_37, e_X4_goOnBehindNp_38, e_X4_goOnBehindNp_41, e_X4_goOnBehindNp_42, e_X4_goOnBehindNp_43, e_X4_goOnBehindNp_44, e_X4_goOnBehindNp_47, e_X4_goOnBehindNp_50, e_X4_goOnBehindNp_51, e_X4_goOnBehindNp_52, e_X4_goOnBehindNp_53, e_X4_goOnBehindNp_56, e_X4_goOnBehindNp_58, e_X4_goOnBehindNp_61, e_X4_goOnBehindNp_62, e_X4_goOnBehindNp_65, e_X4_goOnBehindNp_67, e_X4_goOnBehindNp_70, e_X4_goOnBehindNp_71, e_X4_goOnBehindNp_73, e_X4_goOnBehindNp_76, e_X4_goOnBehindNp_77, e_X4_goOnBehindNp_80, e_X4_goOnBehindNp_81, e_X4_goOnBehindNp_83, e_X4_goOnBehindNp_86, e_X4_goOnBehindNp_87, e_X4_goOnBehindNp_90, e_X4_goOnBehindNp_91, e_X4_goOnBehindNp_94, e_X4_goOnBehindNp_97, e_X4_goOnBehindNp_98, e_X4_goOnBehindNp_99, e_X4_goOnBehindNp_100, e_X4_goOnBehindNp_103, e_X4_goOnBehindNp_104, e_X4_goOnBehindNp_107, e_X4_goOnBehindNp_108, e_X4_goOnBehindNp_109, e_X4_goOnBehindNp_112, e_X4_goOnBehindNp_113, q28, n28, ho, q_10, q14, hv, hv14, if_true, if_false, Option.getD_some, Option.bind_some, Option.toList_some, Option.toList_none, List.cons_append, List.nil_append]
          try rfl
        · rw [decide_eq_false f3, Bool.or_false]
          rw [eq_false f3] at hv14
          by_cases f0 : fm = 0
          · rw [decide_eq_true f0, Bool.true_and]
            rw [eq_true f0] at hv11
            by_cases c7 : c = 27
            · have c7' : c - 25 = 2 := by omega
              rw [decide_eq_true c7', Bool.not_true, b0]
              have n27 : (nI c = nI 27) = True := by rw [q_eq (by omega) (by omega)]; exact eq_true c7
              simp (disch := first | exact rt_bo_0 | exact rt_bo_1 | exact ns_float | exact ns_int | exact ns_ref | assumption | omega | (simp (disch := omega) only [ob_17, rg_17_0 hR, rg_17_1 hR, rg_17_2 hR, ar_26, ln_26, rt_in_nI, Option.isSome_some, Option.getD_some, Bool.or_true, Bool.true_or]; done) | fail) only [e_X4_goOnBehindNp_0, e_X4_goOnBehindNp_1, e_X4_goOnBehindNp_3, e_X4_goOnBehindNp_6, e_X4_goOnBehindNp_7, e_X4_goOnBehindNp_8, e_X4_goOnBehindNp_11, e_X4_goOnBehindNp_12, e_X4_goOnBehindNp_14, e_X4_goOnBehindNp_17, e_X4_goOnBehindNp_18, e_X4_goOnBehindNp_21, e_X4_goOnBehindNp_23, e_X4_goOnBehindNp_26, e_X4_goOnBehindNp_27, e_X4_goOnBehindNp_30, e_X4_goOnBehindNp_31, e_X4_goOnBehindNp_34, e_X4_goOnBehindNp_37, e_X4_goOnBehindNp_38, e_X4_goOnBehindNp_41, e_X4_goOnBehindNp_42, e_X4_goOnBehindNp_43, e_X4_goOnBehindNp_44, e_X4_goOnBehindNp_47, e_X4_goOnBehindNp_50, e_X4_goOnBehindNp_51, e_X4_goOnBehindNp_52, e_X4_goOnBehindNp_53, e_X4_goOnBehindNp_56, e_X4_goOnBehindNp_58, e_X4_goOnBehindNp_61, e_X4_goOnBehindNp_62, e_X4_goOnBehindNp_65, e_X4_goOnBehindNp_67, e_X4_goOnBehindNp_70, e_X4_goOnBehindNp_71, e_X4_goOnBehindNp_73, e_X4_goOnBehindNp_76, e_X4_goOnBehindNp_77, e_X4_goOnBehindNp_80, e_X4_goOnBehindNp_81, e_X4_goOnBehindNp_83, e_X4_goOnBehindNp_86, e_X4_goOnBehindNp_87, e_X4_goOnBehindNp_90, e_X4_goOnBehindNp_91, e_X4_goOnBehindNp_94, e_X4_goOnBehindNp_97, e_X4_goOnBehindNp_98, e_X4_goOnBehindNp_99, e_X4_goOnBehindNp_100, e_X4_goOnBehindNp_103, e_X4_goOnBehindNp_104, e_X4_goOnBehindNp_107, e_X4_goOnBehindNp_108, e_X4_goOnBehindNp_109, e_X4_goOnBehindNp_112, e_X4_goOnBehindNp_113, q28, n28, ho, q_10, q14, q11, q27, n27, hv, hv14, hv11, if_true, if_false, Option.getD_some, Option.bind_some, Option.toList_some, Option.toList_none, List.cons_append, List.nil_append]
              try rfl
            · have c7' : ¬ c - 25 = 2 := by omega
              rw [decide_eq_false c7', Bool.not_false, b1]
              have n27 : (nI c = nI 27) = False := by rw [q_eq (by omega) (by omega)]; exact eq_false c7
              simp (disch := first | exact rt_bo_0 | exact rt_bo_1 | exact ns_float | exact ns_int | exact ns_ref | assumption | omega | (simp (disch := omega) only [ob_17, rg_17_0 hR, rg_17_1 hR, rg_17_2 hR, ar_26, ln_26, rt_in_nI, Option.isSome_some, Option.getD_some, Bool.or_true, Bool.true_or]; done) | fail) only [e_X4_goOnBehindNp_0, e_X4_goOnBehindNp_1, e_X4_goOnBehindNp_3, e_X4_goOnBehindNp_6, e_X4_goOnBehindNp_7, e_X4_goOnBehindNp_8, e_X4_goOnBehindNp_11, e_X4_goOnBehindNp_12, e_X4_goOnBehindNp_14, e_X4_goOnBehindNp_17, e_X4_goOnBehindNp_18, e_X4_goOnBehindNp_21, e_X4_goOnBehindNp_23, e_X4_goOnBehindNp_26, e_X4_goOnBehindNp_27, e_X4_goOnBehindNp_30, e_X4_goOnBehindNp_31, e_X4_goOnBehindNp_34, e_X4_goOnBehindNp_37, e_X4_goOnBehindNp_38, e_X4_goOnBehindNp_41, e_X4_goOnBehindNp_42, e_X4_goOnBehindNp_43, e_X4_goOnBehindNp_44, e_X4_goOnBehindNp_47, e_X4_goOnBehindNp_50, e_X4_goOnBehindNp_51, e_X4_goOnBehindNp_52, e_X4_goOnBehindNp_53, e_X4_goOnBehindNp_56, e_X4_goOnBehindNp_58, e_X4_goOnBehindNp_61, e_X4_goOnBehindNp_62, e_X4_goOnBehindNp_65, e_X4_goOnBehindNp_67, e_X4_goOnBehindNp_70, e_X4_goOnBehindNp_71, e_X4_goOnBehindNp_73, e_X4_goOnBehindNp_76, e_X4_goOnBehindNp_77, e_X4_goOnBehindNp_80, e_X4_goOnBehindNp_81, e_X4_goOnBehindNp_83, e_X4_goOnBehindNp_86, e_X4_goOnBehindNp_87, e_X4_goOnBehindNp_90, e_X4_goOnBehindNp_91, e_X4_goOnBehindNp_94, e_X4_goOnBehindNp_97, e_X4_goOnBehindNp_98, e_X4_goOnBehindNp_99, e_X4_goOnBehindNp_100, e_X4_goOnBehindNp_103, e_X4_goOnBehindNp_104, e_X4_goOnBehindNp_107, e_X4_goOnBehindNp_108, e_X4_goOnBehindNp_109, e_X4_goOnBehindNp_112, e_X4_goOnBehindNp_113, q28, n28, ho, q_10, q14, q11, q27, n27, hv, hv14, hv11, if_true, if_false, Option.getD_some, Option.bind_some, Option.toList_some, Option.toList_none, List.cons_append, List.nil_append]
              try rfl
          · rw [decide_eq_false f0, Bool.false_and, b0]
            rw [eq_false f0] at hv11
            simp (disch := first | exact rt_bo_0 | exact rt_bo_1 | exact ns_float | exact ns_int | exact ns_ref | assumption | omega | (simp (disch := omega) only [ob_17, rg_17_0 hR, rg_17_1 hR, rg_17_2 hR, ar_26, ln_26, rt_in_nI, Option.isSome_some, Option.getD_some, Bool.or_true, Bool.true_or]; done) | fail) only [e_X4_goOnBehindNp_0, e_X4_goOnBehindNp_1, e_X4_goOnBehindNp_3, e_X4_goOnBehindNp_6, e_X4_goOnBehindNp_7, e_X4_goOnBehindNp_8, e_X4_goOnBehindNp_11, e_X4_goOnBehindNp_12, e_X4_goOnBehindNp_14, e_X4_goOnBehindNp_17, e_X4_goOnBehindNp_18, e_X4_goOnBehindNp_21, e_X4_goOnBehindNp_23, e_X4_goOnBehindNp_26, e_X4_goOnBehindNp_27, e_X4_goOnBehindNp_30, e_X4_goOnBehindNp_31, e_X4_goOnBehindNp_34, e_X4_goOnBehindNp_37, e_X4_goOnBehindNp_38, e_X4_goOnBehindNp_41, e_X4_goOnBehindNp_42, e_X4_goOnBehindNp_43, e_X4_goOnBehindNp_44, e_X4_goOnBehindNp_47, e_X4_goOnBehindNp_50, e_X4_goOnBehindNp_51, e_X4_goOnBehindNp_52, e_X4_goOnBehindNp_53, e_X4_goOnBehindNp_56, e_X4_goOnBehindNp_58, e_X4_goOnBehindNp_61, e_X4_goOnBehindNp_62, e_X4_goOnBehindNp_65, e_X4_goOnBehindNp_67, e_X4_goOnBehindNp_70, e_X4_goOnBehindNp_71, e_X4_goOnBehindNp_73, e_X4_goOnBehindNp_76, e_X4_goOnBehindNp_77, e_X4_goOnBehindNp_80, e_X4_goOnBehindNp_81, e_X4_goOnBehindNp_83, e_X4_goOnBehindNp_86, e_X4_goOnBehindNp_87, e_X4_goOnBehindNp_90, e_X4_goOnBehindNp_91, e_X4_goOnBehindNp_94, e_X4_goOnBehindNp_97, e_X4_goOnBehindNp_98, e_X4_goOnBehindNp_99, e_X4_goOnBehindNp_100, e_X4_goOnBehindNp_103, e_X4_goOnBehindNp_104, e_X4_goOnBehindNp_107, e_X4_goOnBehindNp_108, e_X4_goOnBehindNp_109, e_X4_goOnBehindNp_112, e_X4_goOnBehindNp_113, q28, n28, ho, q_10, q14, q11, q27, hv, hv14, hv11, if_true, if_false, Option.getD_some, Option.bind_some, Option.toList_some, Option.toList_none, List.cons_append, List.nil_append]
            try rfl
      by_cases g3 : 0 < (syW K (syL fm (c - 25)) O W).length
      · rw [decide_eq_true g3, b1] at k1
        have h5' : I2 18 5 = nI O := by rw [k4 18 (by omega) (by decide)]; exact h5
        have hon := x_addOnward (e := e) (L := L) (x := nI c) k2 h5' (by omega)
        refine ⟨rt_up (rt_up (rt_up I2 22 O (nI c)) 18 5 (nI (O + 1))) 17 5 (nI 3), R2, b, a, ?_, FrG_up (FrG_up (FrG_up fr (by decide) (by decide) (Or.inl (by decide))) (by decide) (by decide) (by decide)) (by decide) (by decide) (by decide), k2, k3, Or.inr ⟨rfl, rfl⟩, fun s2 hs => ?_⟩
        · rw [stA, e_X4_goOnBehindNp_82]
          rw [if_pos g3]
          simp (disch := first | exact rt_bo_0 | exact rt_bo_1 | exact ns_float | exact ns_int | exact ns_ref | assumption | omega | (simp (disch := omega) only [ob_17, rg_17_0 hR, rg_17_1 hR, rg_17_2 hR, ar_26, ln_26, ob_18, rg_18_0 hR, ar_19, ln_19, rg_18_1 hR, ar_20, ln_20, rg_18_2 hR, ar_21, ln_21, rg_18_3 hR, ar_22, ln_22, ob_23, rg_23_0 hR, rg_23_1 hR, rg_17_0 k2, rt_in_nI, Option.isSome_some, Option.getD_some, Bool.or_true, Bool.true_or]; done) | fail) only [e_X4_goOnBehindNp_0, e_X4_goOnBehindNp_1, e_X4_goOnBehindNp_3, e_X4_goOnBehindNp_6, e_X4_goOnBehindNp_7, e_X4_goOnBehindNp_8, e_X4_goOnBehindNp_11, e_X4_goOnBehindNp_12, e_X4_goOnBehindNp_14, e_X4_goOnBehindNp_17, e_X4_goOnBehindNp_18, e_X4_goOnBehindNp_21, e_X4_goOnBehindNp_23, e_X4_goOnBehindNp_26, e_X4_goOnBehindNp_27, e_X4_goOnBehindNp_30, e_X4_goOnBehindNp_31, e_X4_goOnBehindNp_34, e_X4_goOnBehindNp_37, e_X4_goOnBehindNp_38, e_X4_goOnBehindNp_41, e_X4_goOnBehindNp_42, e_X4_goOnBehindNp_43, e_X4_goOnBehindNp_44, e_X4_goOnBehindNp_47, e_X4_goOnBehindNp_50, e_X4_goOnBehindNp_51, e_X4_goOnBehindNp_52, e_X4_goOnBehindNp_53, e_X4_goOnBehindNp_56, e_X4_goOnBehindNp_58, e_X4_goOnBehindNp_61, e_X4_goOnBehindNp_62, e_X4_goOnBehindNp_65, e_X4_goOnBehindNp_67, e_X4_goOnBehindNp_70, e_X4_goOnBehindNp_71, e_X4_goOnBehindNp_73, e_X4_goOnBehindNp_76, e_X4_goOnBehindNp_77, e_X4_goOnBehindNp_80, e_X4_goOnBehindNp_81, e_X4_goOnBehindNp_83, e_X4_goOnBehindNp_86, e_X4_goOnBehindNp_87, e_X4_goOnBehindNp_90, e_X4_goOnBehindNp_91, e_X4_goOnBehindNp_94, e_X4_goOnBehindNp_97, e_X4_goOnBehindNp_98, e_X4_goOnBehindNp_99, e_X4_goOnBehindNp_100, e_X4_goOnBehindNp_103, e_X4_goOnBehindNp_104, e_X4_goOnBehindNp_107, e_X4_goOnBehindNp_108, e_X4_goOnBehindNp_109, e_X4_goOnBehindNp_112, e_X4_goOnBehindNp_113, rg_17_0 hR, rg_17_1 hR, rg_17_0 k2, k1, q_10, hon, q3, if_false, Option.getD_some, Option.bind_some, Option.toList_some, Option.toList_none, List.cons_append, List.nil_append]
          rfl
        · rw [if_pos g3, Option.some.injEq] at hs
          subst hs
          have fI : ∀ c, c ≠ 17 → c ≠ 18 → c ≠ 22 → (rt_up (rt_up (rt_up I2 22 O (nI c)) 18 5 (nI (O + 1))) 17 5 (nI 3)) c = I2 c := fun c h1 h2 h3 => by rw [rt_up_f h1, rt_up_f h2, rt_up_f h3]
          refine ⟨CB_17 (s := ((3, fm, dn), ((P, O + 1), K, Lk, N, syA Rl O (c - 25)), syW K (syL fm (c - 25)) O W)) ⟨⟨?_, ?_, ?_⟩, ⟨?_, rt_up_eq, fun k hk => ?_, fun i hi => ?_⟩, ⟨?_, ?_, RX_fr k7 (by rw [rt_up_f (by omega), rt_up_f (by omega)])⟩⟩ hb (by decide), rt_up_eq, ?_⟩
          · rw [rt_up_n1 (by decide), rt_up_n1 (by decide), k4 17 (by omega) (by decide)]; exact h1
          · rw [rt_up_n1 (by decide), rt_up_n1 (by decide), k4 17 (by omega) (by decide)]; exact h2
          · rw [rt_up_n1 (by decide), rt_up_n1 (by decide), k4 17 (by omega) (by decide)]; exact h3
          · rw [rt_up_n2 (by decide), rt_up_n1 (by decide), k4 18 (by omega) (by decide)]; exact h4
          · rw [rt_up_f (by decide), rt_up_f (by decide), rt_up_f (show (21 : Nat) ≠ 18 by decide), rt_up_f (show (21 : Nat) ≠ 22 by decide), rt_up_f (show (20 : Nat) ≠ 18 by decide), rt_up_f (show (20 : Nat) ≠ 22 by decide), k4 19 (by omega) (by decide), k4 20 (by omega) (by decide), k4 21 (by omega) (by decide)]
            exact h6 k hk
          · rw [rt_up_n1 (by decide)]
            by_cases g4 : i = O
            · subst g4
              rw [rt_up_eq, syA_s]
              congr 1
              omega
            · rw [rt_up_n2 g4, syA_n g4, k4 22 (by omega) (by decide)]
              exact h7' i (by omega)
          · rw [rt_up_n1 (by decide), rt_up_n1 (by decide)]; exact k5
          · rw [rt_up_n1 (by decide), rt_up_n1 (by decide)]; exact k6
          · rw [rt_up_n2 (by decide), rt_up_n1 (by decide), rt_up_n1 (by decide), k4 17 (by omega) (by decide)]; exact hv
      · rw [decide_eq_false g3, b0] at k1
        refine ⟨I2, R2, b, a, ?_, fr, k2, k3, Or.inr ⟨rfl, rfl⟩, fun s2 hs => ?_⟩
        · rw [stA, e_X4_goOnBehindNp_82]
          rw [if_neg g3]
          simp (disch := first | exact rt_bo_0 | exact rt_bo_1 | exact ns_float | exact ns_int | exact ns_ref | assumption | omega | (simp (disch := omega) only [ob_17, rg_17_0 hR, rg_17_1 hR, rg_17_2 hR, ar_26, ln_26, ob_18, rg_18_0 hR, ar_19, ln_19, rg_18_1 hR, ar_20, ln_20, rg_18_2 hR, ar_21, ln_21, rg_18_3 hR, ar_22, ln_22, ob_23, rg_23_0 hR, rg_23_1 hR, rt_in_nI, Option.isSome_some, Option.getD_some, Bool.or_true, Bool.true_or]; done) | fail) only [e_X4_goOnBehindNp_0, e_X4_goOnBehindNp_1, e_X4_goOnBehindNp_3, e_X4_goOnBehindNp_6, e_X4_goOnBehindNp_7, e_X4_goOnBehindNp_8, e_X4_goOnBehindNp_11, e_X4_goOnBehindNp_12, e_X4_goOnBehindNp_14, e_X4_goOnBehindNp_17, e_X4_goOnBehindNp_18, e_X4_goOnBehindNp_21, e_X4_goOnBehindNp_23, e_X4_goOnBehindNp_26, e_X4_goOnBehindNp_27, e_X4_goOnBehindNp_30, e_X4_goOnBehindNp_31, e_X4_goOnBehindNp_34, e_X4_goOnBehindNp_37, e_X4_goOnBehindNp_38, e_X4_goOnBehindNp_41, e_X4_goOnBehindNp_42, e_X4_goOnBehindNp_43, e_X4_goOnBehindNp_44, e_X4_goOnBehindNp_47, e_X4_goOnBehindNp_50, e_X4_goOnBehindNp_51, e_X4_goOnBehindNp_52, e_X4_goOnBehindNp_53, e_X4_goOnBehindNp_56, e_X4_goOnBehindNp_58, e_X4_goOnBehindNp_61, e_X4_goOnBehindNp_62, e_X4_goOnBehindNp_65, e_X4_goOnBehindNp_67, e_X4_goOnBehindNp_70, e_X4_goOnBehindNp_71, e_X4_goOnBehindNp_73, e_X4_goOnBehindNp_76, e_X4_goOnBehindNp_77, e_X4_goOnBehindNp_80, e_X4_goOnBehindNp_81, e_X4_goOnBehindNp_83, e_X4_goOnBehindNp_86, e_X4_goOnBehindNp_87, e_X4_goOnBehindNp_90, e_X4_goOnBehindNp_91, e_X4_goOnBehindNp_94, e_X4_goOnBehindNp_97, e_X4_goOnBehindNp_98, e_X4_goOnBehindNp_99, e_X4_goOnBehindNp_100, e_X4_goOnBehindNp_103, e_X4_goOnBehindNp_104, e_X4_goOnBehindNp_107, e_X4_goOnBehindNp_108, e_X4_goOnBehindNp_109, e_X4_goOnBehindNp_112, e_X4_goOnBehindNp_113, rg_17_0 hR, rg_17_1 hR, k1, q_00, if_true, Option.getD_some, Option.bind_some, Option.toList_some, Option.toList_none, List.cons_append, List.nil_append]
          rfl
        · rw [if_neg g3] at hs; cases hs
    · rw [decide_eq_false g2, b0] at ho
      simp only [if_neg g2]
      refine ⟨I, R, a, b, ?_, FrG_rf, hR, fun _ _ => rfl, Or.inl ⟨rfl, rfl⟩, fun s2 hs => by cases hs⟩
      have n28 : (nI c = nI 28) = False := by rw [q_eq (by omega) (by omega)]; exact eq_false g1
      simp (disch := first | exact rt_bo_0 | exact rt_bo_1 | exact ns_float | exact ns_int | exact ns_ref | assumption | omega | (simp (disch := omega) only [ob_17, rg_17_0 hR, rg_17_1 hR, rg_17_2 hR, ar_26, ln_26, rt_in_nI, Option.isSome_some, Option.getD_some, Bool.or_true, Bool.true_or]; done) | fail) only [e_X4_goOnBehindNp_0, e_X4_goOnBehindNp_1, e_X4_goOnBehindNp_3, e_X4_goOnBehindNp_6, e_X4_goOnBehindNp_7, e_X4_goOnBehindNp_8, e_X4_goOnBehindNp_11, e_X4_goOnBehindNp_12, e_X4_goOnBehindNp_14, e_X4_goOnBehindNp_17, e_X4_goOnBehindNp_18, e_X4_goOnBehindNp_21, e_X4_goOnBehindNp_23, e_X4_goOnBehindNp_26, e_X4_goOnBehindNp_27, e_X4_goOnBehindNp_30, e_X4_goOnBehindNp_31, e_X4_goOnBehindNp_34, e_X4_goOnBehindNp_37, e_X4_goOnBehindNp_38, e_X4_goOnBehindNp_41, e_X4_goOnBehindNp_42, e_X4_goOnBehindNp_43, e_X4_goOnBehindNp_44, e_X4_goOnBehindNp_47, e_X4_goOnBehindNp_50, e_X4_goOnBehindNp_51, e_X4_goOnBehindNp_52, e_X4_goOnBehindNp_53, e_X4_goOnBehindNp_56, e_X4_goOnBehindNp_58, e_X4_goOnBehindNp_61, e_X4_goOnBehindNp_62, e_X4_goOnBehindNp_65, e_X4_goOnBehindNp_67, e_X4_goOnBehindNp_70, e_X4_goOnBehindNp_71, e_X4_goOnBehindNp_73, e_X4_goOnBehindNp_76, e_X4_goOnBehindNp_77, e_X4_goOnBehindNp_80, e_X4_goOnBehindNp_81, e_X4_goOnBehindNp_82, e_X4_goOnBehindNp_83, e_X4_goOnBehindNp_86, e_X4_goOnBehindNp_87, e_X4_goOnBehindNp_90, e_X4_goOnBehindNp_91, e_X4_goOnBehindNp_94, e_X4_goOnBehindNp_97, e_X4_goOnBehindNp_98, e_X4_goOnBehindNp_99, e_X4_goOnBehindNp_100, e_X4_goOnBehindNp_103, e_X4_goOnBehindNp_104, e_X4_goOnBehindNp_107, e_X4_goOnBehindNp_108, e_X4_goOnBehindNp_109, e_X4_goOnBehindNp_112, e_X4_goOnBehindNp_113, q28, n28, ho, q_00, if_true, if_false, Option.getD_some, Option.bind_some, Option.toList_some, Option.toList_none, List.cons_append, List.nil_append]
      rfl
end P66

def sFin (n : Nat) (s : PsT) : Int32 ⊕ PsT := match sEnd s with
  | none => .inl (flt 1 n)
  | some s3 => .inr s3
/-- the text from p on -/
def prs (wl : Nat → List Nat) (nw : Nat) (t : Nat → Nat) (n : Nat) : Nat → Nat → PsT → Int32 ⊕ PsT
  | 0, _, _ => .inl 0
  | f + 1, p, s => if wok t n p = true then (match sWord (fnd wl nw (txt t p (lend t n p))) s with
    | .inl w => .inl (flt w p)
    | .inr s2 => if lend t n p + 1 = n then .inl (flt 5 (lend t n p)) else if lend t n p = n then sFin n s2 else prs wl nw t n f (lend t n p + 1) s2) else .inl (flt 5 (lend t n p))
def pct (wl : Nat → List Nat) (nw : Nat) (t : Nat → Nat) (n f en : Nat) (s2 : PsT) : Int32 ⊕ PsT := if en + 1 = n then .inl (flt 5 en) else if en = n then sFin n s2 else prs wl nw t n f (en + 1) s2
/-- the whole text -/
def pall (wl : Nat → List Nat) (nw : Nat) (t : Nat → Nat) (n : Nat) : Int32 ⊕ PsT := if wok t n 0 = true then (match sWord1 (fnd wl nw (txt t 0 (lend t n 0))) (mst t n (lend t n 0 + 1)) (lend t n 0) with
    | .inl w => .inl (flt w 0)
    | .inr s2 => pct wl nw t n n (lend t n 0) s2) else .inl (flt 5 (lend t n 0))
def vof : Int32 ⊕ PsT → Int32
  | .inl v => v
  | .inr s => nI s.2.2.length
def FrX (I I2 : Nat → Nat → Int32) : Prop := (∀ c, c < 17 ∨ 25 < c → I2 c = I c) ∧ I2 17 3 = I 17 3
/-- what hearing comes to -/
def XR (e : Nat) (L : Nat → Nat → Int64) (E : Option (Option Value × rt_H)) (I : Nat → Nat → Int32) (R : Nat → Nat → Option Nat) (a b : Nat) (res : Int32 ⊕ PsT) : Prop :=
  ∃ I2 R2 a2 b2, E = some (some (.int (vof res)), (71 + e, I2, L, R2)) ∧ FrX I I2 ∧ RG R2 a2 b2 ∧ (∀ c, c ≠ 23 → R2 c = R c) ∧ ((a2 = a ∧ b2 = b) ∨ (a2 = b ∧ b2 = a)) ∧ (∀ v, res = .inl v → I2 17 8 = 0) ∧ (∀ s3, res = .inr s3 → ∃ I1, I2 = rt_up I1 17 8 1 ∧ CX I1 a2 s3)
section P68
variable {e : Nat} {I I2 : Nat → Nat → Int32} {L : Nat → Nat → Int64} {R : Nat → Nat → Option Nat} {a b O P k i c n N p en j nw md fm kd md2 f : Nat} {K Rl d t : Nat → Nat} {Lk : Nat → Nat → Bool} {Nn : Nat → Option Nat} {W : List (Nat → Nat)} {dn has pl : Bool} {s s2 : PsT} {x : Int32} {w : Option Nat} {wl : Nat → List Nat} {u : Value}
theorem prs_s : prs wl nw t n (f + 1) p s = if wok t n p = true then (match sWord (fnd wl nw (txt t p (lend t n p))) s with
    | .inl w => .inl (flt w p)
    | .inr s2 => pct wl nw t n f (lend t n p) s2) else .inl (flt 5 (lend t n p)) := rfl
theorem CB_80 (h : CB I a s) : I 17 8 = 0 := by
  obtain ⟨⟨md, fm, dn⟩, ⟨⟨P, O⟩, K, Lk, Nn, Rl⟩, W⟩ := s
  exact h.1.2.2
theorem CB_O (h : CB I a s) : I 18 5 = nI s.2.1.1.2 := by
  obtain ⟨⟨md, fm, dn⟩, ⟨⟨P, O⟩, K, Lk, Nn, Rl⟩, W⟩ := s
  exact h.2.1.2.1
theorem CB_W (h : CB I a s) : I 23 2 = nI s.2.2.length := by
  obtain ⟨⟨md, fm, dn⟩, ⟨⟨P, O⟩, K, Lk, Nn, Rl⟩, W⟩ := s
  exact h.2.2.1
theorem SW_O (h : SW nw s) : s.2.1.1.2 ≤ 6 := by
  obtain ⟨⟨md, fm, dn⟩, ⟨⟨P, O⟩, K, Lk, Nn, Rl⟩, W⟩ := s
  exact h.1.2.2.2
theorem TX_fr (h : TX I N t) (hf : ∀ c, c < 17 → I2 c = I c) : TX I2 N t := by
  obtain ⟨h1, h2, h3, h4⟩ := h
  exact ⟨h1, by rw [hf 7 (by decide)]; exact h2, by rw [hf 8 (by decide)]; exact h3, h4⟩
theorem WX_fr (h : WX I nw wl) (hf : ∀ c, c < 17 → I2 c = I c) : WX I2 nw wl := by
  obtain ⟨h1, h2, h3⟩ := h
  exact ⟨h1, by rw [hf 9 (by decide)]; exact h2, fun k hk => by rw [hf 11 (by decide), hf 10 (by decide)]; exact h3 k hk⟩
theorem XR_tr {I1 : Nat → Nat → Int32} {R1 : Nat → Nat → Option Nat} {a1 b1 : Nat} {E : Option (Option Value × rt_H)} {res : Int32 ⊕ PsT} (h : XG I I1 R R1 a b a1 b1) (h2 : XR e L E I1 R1 a1 b1 res) : XR e L E I R a b res := by
  obtain ⟨g1, g2, g3, g4⟩ := h
  obtain ⟨I2, R2, a2, b2, k1, k2, k3, k4, k5, k6, k7⟩ := h2
  refine ⟨I2, R2, a2, b2, k1, ⟨fun c hc => by rw [k2.1 c hc, g1.1 c hc], by rw [k2.2, g1.2.1]⟩, k3, fun c hc => by rw [k4 c hc, g3 c hc], by omega, k6, k7⟩
theorem x_hw (hR : RG R a b) (ha : a = 24 ∨ a = 25) (hb : b = 24 ∨ b = 25) (hab : a ≠ b) (hX : CX I a s) (hS : SW nw s) (hT : TX I N t) (hW : WX I nw wl) (hp : 0 < p) (hse : p ≤ en) (hen : en ≤ N) : ∃ I2 R2 a2 b2, Ev mX4_hearWord 0 [.ref 17, .ref 7, .int (nI p), .int (nI en), .int (nI n), .ref 9, .float 0, .float 0] [] (71 + e, I, L, R) = some (some (.int (nI (fN (sWord (fnd wl nw (txt t p en)) s)))), (71 + e, I2, L, R2)) ∧ XG I I2 R R2 a b a2 b2 ∧ ∀ s2, sWord (fnd wl nw (txt t p en)) s = .inr s2 → CX I2 a2 s2 := by
  have hf := x_find (e := e) (L := L) hR hT hW hse hen
  have hN := hT.1
  have w1 := hW.1
  have hp0 : (nI p = 0) = False := eq_false (nI_ne0 hp (by omega))
  have m1 : ((-1 : Int32) = -1) = True := by decide
  have q6 : (6 : Int32) = nI 6 := rfl
  have b1 : b01 true = 1 := rfl
  have b0 : b01 false = 0 := rfl
  have hO := CB_O hX.1
  have hO6 := SW_O hS
  unfold sWord
  cases hc : fnd wl nw (txt t p en) with
  | none =>
    rw [hc] at hf
    refine ⟨I, R, a, b, ?_, XG_rf hR FrG_rf, fun s2 h => by cases h⟩
    simp (disch := first | exact rt_bo_0 | exact rt_bo_1 | exact ns_float | exact ns_int | exact ns_ref | assumption | omega | (simp (disch := omega) only [ob_17, rg_17_0 hR, rg_17_1 hR, rg_17_2 hR, ar_26, ln_26, ob_7, rg_7_0 hR, ar_8, ln_8, ob_9, rg_9_0 hR, ar_10, ln_10, rg_9_1 hR, ar_11, ln_11, rg_9_2 hR, ar_12, ln_12, rg_9_3 hR, ar_13, ln_13, rg_9_4 hR, ar_14, ln_14, rt_in_nI, Option.isSome_some, Option.getD_some, Bool.or_true, Bool.true_or]; done) | fail) only [e_X4_hearWord_0, e_X4_hearWord_2, e_X4_hearWord_3, e_X4_hearWord_4, e_X4_hearWord_5, e_X4_hearWord_8, e_X4_hearWord_10, e_X4_hearWord_11, e_X4_hearWord_14, e_X4_hearWord_15, e_X4_hearWord_16, e_X4_hearWord_17, e_X4_hearWord_18, e_X4_hearWord_20, e_X4_hearWord_22, e_X4_hearWord_25, e_X4_hearWord_28, e_X4_hearWord_29, e_X4_hearWord_32, e_X4_hearWord_33, e_X4_hearWord_35, e_X4_hearWord_37, e_X4_hearWord_38, e_X4_hearWord_41, e_X4_hearWord_43, e_X4_hearWord_46, e_X4_hearWord_47, e_X4_hearWord_48, e_X4_hearWord_51, e_X4_hearWord_52, e_X4_hearWord_54, e_X4_hearWord_57, e_X4_hearWord_58, e_X4_hearWord_59, e_X4_hearWord_60, e_X4_hearWord_61, e_X4_hearWord_62, e_X4_hearWord_65, e_X4_hearWord_66, e_X4_hearWord_67, e_X4_hearWord_69, e_X4_hearWord_72, e_X4_hearWord_75, e_X4_hearWord_76, e_X4_hearWord_79, e_X4_hearWord_82, e_X4_hearWord_84, e_X4_hearWord_87, e_X4_hearWord_88, e_X4_hearWord_89, e_X4_hearWord_91, e_X4_hearWord_94, e_X4_hearWord_95, e_X4_hearWord_96, e_X4_hearWord_97, e_X4_hearWord_99, e_X4_hearWord_102, e_X4_hearWord_105, e_X4_hearWord_106, e_X4_hearWord_109, e_X4_hearWord_110, hf, oX, hp0, m1, q_00, if_true, if_false, Option.getD_some, Option.bind_some, Option.toList_some, Option.toList_none, List.cons_append, List.nil_append]
    rfl
  | some c =>
    rw [hc] at hf
    have hcl := fnd_lt hc
    have hce : (nI c = -1) = False := q_e1 (by omega)
    have hon := x_isOn (c := c) (by omega) (h := (71 + e, I, L, R))
    dsimp only
    by_cases g4 : (25 ≤ c ∧ c ≤ 27) ∧ 6 ≤ s.2.1.1.2
    · rw [if_pos g4]
      rw [decide_eq_true g4.1, b1] at hon
      have c6 : ¬ s.2.1.1.2 < 6 := by omega
      refine ⟨I, R, a, b, ?_, XG_rf hR FrG_rf, fun s2 h => by cases h⟩
      simp (disch := first | exact rt_bo_0 | exact rt_bo_1 | exact ns_float | exact ns_int | exact ns_ref | assumption | omega | (simp (disch := omega) only [ob_17, rg_17_0 hR, rg_17_1 hR, rg_17_2 hR, ar_26, ln_26, ob_7, rg_7_0 hR, ar_8, ln_8, ob_9, rg_9_0 hR, ar_10, ln_10, rg_9_1 hR, ar_11, ln_11, rg_9_2 hR, ar_12, ln_12, rg_9_3 hR, ar_13, ln_13, rg_9_4 hR, ar_14, ln_14, ob_18, rg_18_0 hR, ar_19, ln_19, rg_18_1 hR, ar_20, ln_20, rg_18_2 hR, ar_21, ln_21, rg_18_3 hR, ar_22, ln_22, rt_in_nI, Option.isSome_some, Option.getD_some, Bool.or_true, Bool.true_or]; done) | fail) only [e_X4_hearWord_0, e_X4_hearWord_2, e_X4_hearWord_3, e_X4_hearWord_4, e_X4_hearWord_5, e_X4_hearWord_8, e_X4_hearWord_10, e_X4_hearWord_11, e_X4_hearWord_14, e_X4_hearWord_15, e_X4_hearWord_16, e_X4_hearWord_17, e_X4_hearWord_18, e_X4_hearWord_20, e_X4_hearWord_22, e_X4_hearWord_25, e_X4_hearWord_28, e_X4_hearWord_29, e_X4_hearWord_32, e_X4_hearWord_33, e_X4_hearWord_35, e_X4_hearWord_37, e_X4_hearWord_38, e_X4_hearWord_41, e_X4_hearWord_43, e_X4_hearWord_46, e_X4_hearWord_47, e_X4_hearWord_48, e_X4_hearWord_51, e_X4_hearWord_52, e_X4_hearWord_54, e_X4_hearWord_57, e_X4_hearWord_58, e_X4_hearWord_59, e_X4_hearWord_60, e_X4_hearWord_61, e_X4_hearWord_62, e_X4_hearWord_65, e_X4_hearWord_66, e_X4_hearWord_67, e_X4_hearWord_69, e_X4_hearWord_72, e_X4_hearWord_75, e_X4_hearWord_76, e_X4_hearWord_79, e_X4_hearWord_82, e_X4_hearWord_84, e_X4_hearWord_87, e_X4_hearWord_88, e_X4_hearWord_89, e_X4_hearWord_91, e_X4_hearWord_94, e_X4_hearWord_95, e_X4_hearWord_96, e_X4_hearWord_97, e_X4_hearWord_99, e_X4_hearWord_102, e_X4_hearWord_105, e_X4_hearWord_106, e_X4_hearWord_109, e_X4_hearWord_110, e_X1_onwards_0, e_X1_onwards_1, e_X1_onwards_4, rg_17_0 hR, hf, oX, hp0, hce, hon, hO, q6, q_lt, c6, q_10, if_true, if_false, Option.getD_some, Option.bind_some, Option.toList_some, Option.toList_none, List.cons_append, List.nil_append]
      rfl
    · rw [if_neg g4]
      obtain ⟨I2, R2, a2, b2, k1, k2, k3⟩ := x_goOn (e := e) (L := L) (c := c) hR ha hb hab hX hS (fun h1 h2 => by
        by_cases h6 : 6 ≤ s.2.1.1.2
        · exact absurd ⟨⟨h1, h2⟩, h6⟩ g4
        · omega) (by omega) w1
      have stA : Ev mX4_hearWord 0 [.ref 17, .ref 7, .int (nI p), .int (nI en), .int (nI n), .ref 9, .float 0, .float 0] [] (71 + e, I, L, R) = Ev mX4_hearWord 96 [.ref 17, .ref 7, .int (nI p), .int (nI en), .int (nI n), .ref 9, .int (nI c), .int 0] [] (71 + e, I, L, R) := by
        by_cases g5 : 25 ≤ c ∧ c ≤ 27
        · rw [decide_eq_true g5, b1] at hon
          have c6 : s.2.1.1.2 < 6 := by
            by_cases h6 : 6 ≤ s.2.1.1.2
            · exact absurd ⟨g5, h6⟩ g4
            · omega
          simp (disch := first | exact rt_bo_0 | exact rt_bo_1 | exact ns_float | exact ns_int | exact ns_ref | assumption | omega | (simp (disch := omega) only [ob_17, rg_17_0 hR, rg_17_1 hR, rg_17_2 hR, ar_26, ln_26, ob_7, rg_7_0 hR, ar_8, ln_8, ob_9, rg_9_0 hR, ar_10, ln_10, rg_9_1 hR, ar_11, ln_11, rg_9_2 hR, ar_12, ln_12, rg_9_3 hR, ar_13, ln_13, rg_9_4 hR, ar_14, ln_14, ob_18, rg_18_0 hR, ar_19, ln_19, rg_18_1 hR, ar_20, ln_20, rg_18_2 hR, ar_21, ln_21, rg_18_3 hR, ar_22, ln_22, rt_in_nI, Option.isSome_some, Option.getD_some, Bool.or_true, Bool.true_or]; done) | fail) only [e_X4_hearWord_0, e_X4_hearWord_2, e_X4_hearWord_3, e_X4_hearWord_4, e_X4_hearWord_5, e_X4_hearWord_8, e_X4_hearWord_10, e_X4_hearWord_11, e_X4_hearWord_14, e_X4_hearWord_15, e_X4_hearWord_16, e_X4_hearWord_17, e_X4_hearWord_18, e_X4_hearWord_20, e_X4_hearWord_22, e_X4_hearWord_25, e_X4_hearWord_28, e_X4_hearWord_29, e_X4_hearWord_32, e_X4_hearWord_33, e_X4_hearWord_35, e_X4_hearWord_37, e_X4_hearWord_38, e_X4_hearWord_41, e_X4_hearWord_43, e_X4_hearWord_46, e_X4_hearWord_47, e_X4_hearWord_48, e_X4_hearWord_51, e_X4_hearWord_52, e_X4_hearWord_54, e_X4_hearWord_57, e_X4_hearWord_58, e_X4_hearWord_59, e_X4_hearWord_60, e_X4_hearWord_61, e_X4_hearWord_62, e_X4_hearWord_65, e_X4_hearWord_66, e_X4_hearWord_67, e_X4_hearWord_69, e_X4_hearWord_72, e_X4_hearWord_75, e_X4_hearWord_76, e_X4_hearWord_79, e_X4_hearWord_82, e_X4_hearWord_84, e_X4_hearWord_87, e_X4_hearWord_88, e_X4_hearWord_89, e_X4_hearWord_91, e_X4_hearWord_94, e_X4_hearWord_95, e_X4_hearWord_97, e_X4_hearWord_99, e_X4_hearWord_102, e_X4_hearWord_105, e_X4_hearWord_106, e_X4_hearWord_109, e_X4_hearWord_110, e_X1_onwards_0, e_X1_onwards_1, e_X1_onwards_4, rg_17_0 hR, hf, oX, hp0, hce, hon, hO, q6, q_lt, c6, q_10, q_00, if_true, if_false, Option.getD_some, Option.bind_some, Option.toList_some, Option.toList_none, List.cons_append, List.nil_append]
        · rw [decide_eq_false g5, b0] at hon
          simp (disch := first | exact rt_bo_0 | exact rt_bo_1 | exact ns_float | exact ns_int | exact ns_ref | assumption | omega | (simp (disch := omega) only [ob_17, rg_17_0 hR, rg_17_1 hR, rg_17_2 hR, ar_26, ln_26, ob_7, rg_7_0 hR, ar_8, ln_8, ob_9, rg_9_0 hR, ar_10, ln_10, rg_9_1 hR, ar_11, ln_11, rg_9_2 hR, ar_12, ln_12, rg_9_3 hR, ar_13, ln_13, rg_9_4 hR, ar_14, ln_14, ob_18, rg_18_0 hR, ar_19, ln_19, rg_18_1 hR, ar_20, ln_20, rg_18_2 hR, ar_21, ln_21, rg_18_3 hR, ar_22, ln_22, rt_in_nI, Option.isSome_some, Option.getD_some, Bool.or_true, Bool.true_or]; done) | fail) only [e_X4_hearWord_0, e_X4_hearWord_2, e_X4_hearWord_3, e_X4_hearWord_4, e_X4_hearWord_5, e_X4_hearWord_8, e_X4_hearWord_10, e_X4_hearWord_11, e_X4_hearWord_14, e_X4_hearWord_15, e_X4_hearWord_16, e_X4_hearWord_17, e_X4_hearWord_18, e_X4_hearWord_20, e_X4_hearWord_22, e_X4_hearWord_25, e_X4_hearWord_28, e_X4_hearWord_29, e_X4_hearWord_32, e_X4_hearWord_33, e_X4_hearWord_35, e_X4_hearWord_37, e_X4_hearWord_38, e_X4_hearWord_41, e_X4_hearWord_43, e_X4_hearWord_46, e_X4_hearWord_47, e_X4_hearWord_48, e_X4_hearWord_51, e_X4_hearWord_52, e_X4_hearWord_54, e_X4_hearWord_57, e_X4_hearWord_58, e_X4_hearWord_59, e_X4_hearWord_60, e_X4_hearWord_61, e_X4_hearWord_62, e_X4_hearWord_65, e_X4_hearWord_66, e_X4_hearWord_67, e_X4_hearWord_69, e_X4_hearWord_72, e_X4_hearWord_75, e_X4_hearWord_76, e_X4_hearWord_79, e_X4_hearWord_82, e_X4_hearWord_84, e_X4_hearWord_87, e_X4_hearWord_88, e_X4_hearWord_89, e_X4_hearWord_91, e_X4_hearWord_94, e_X4_hearWord_95, e_X4_hearWord_97, e_X4_hearWord_99, e_X4_hearWord_102, e_X4_hearWord_105, e_X4_hearWord_106, e_X4_hearWord_109, e_X4_hearWord_110, hf, oX, hp0, hce, hon, q_00, if_true, if_false, Option.getD_some, Option.bind_some, Option.toList_some, Option.toList_none, List.cons_append, List.nil_append]
      rw [stA, e_X4_hearWord_96]
      cases hs : sStep c s with
      | none =>
        rw [hs, Option.isSome_none, b0] at k1
        refine ⟨I2, R2, a2, b2, ?_, k2, fun s2 h => by cases h⟩
        simp (disch := first | exact rt_bo_0 | exact rt_bo_1 | exact ns_float | exact ns_int | exact ns_ref | assumption | omega | (simp (disch := omega) only [ob_17, rg_17_0 hR, rg_17_1 hR, rg_17_2 hR, ar_26, ln_26, ob_7, rg_7_0 hR, ar_8, ln_8, ob_9, rg_9_0 hR, ar_10, ln_10, rg_9_1 hR, ar_11, ln_11, rg_9_2 hR, ar_12, ln_12, rg_9_3 hR, ar_13, ln_13, rg_9_4 hR, ar_14, ln_14, ob_18, rg_18_0 hR, ar_19, ln_19, rg_18_1 hR, ar_20, ln_20, rg_18_2 hR, ar_21, ln_21, rg_18_3 hR, ar_22, ln_22, rt_in_nI, Option.isSome_some, Option.getD_some, Bool.or_true, Bool.true_or]; done) | fail) only [e_X4_hearWord_0, e_X4_hearWord_2, e_X4_hearWord_3, e_X4_hearWord_4, e_X4_hearWord_5, e_X4_hearWord_8, e_X4_hearWord_10, e_X4_hearWord_11, e_X4_hearWord_14, e_X4_hearWord_15, e_X4_hearWord_16, e_X4_hearWord_17, e_X4_hearWord_18, e_X4_hearWord_20, e_X4_hearWord_22, e_X4_hearWord_25, e_X4_hearWord_28, e_X4_hearWord_29, e_X4_hearWord_32, e_X4_hearWord_33, e_X4_hearWord_35, e_X4_hearWord_37, e_X4_hearWord_38, e_X4_hearWord_41, e_X4_hearWord_43, e_X4_hearWord_46, e_X4_hearWord_47, e_X4_hearWord_48, e_X4_hearWord_51, e_X4_hearWord_52, e_X4_hearWord_54, e_X4_hearWord_57, e_X4_hearWord_58, e_X4_hearWord_59, e_X4_hearWord_60, e_X4_hearWord_61, e_X4_hearWord_62, e_X4_hearWord_65, e_X4_hearWord_66, e_X4_hearWord_67, e_X4_hearWord_69, e_X4_hearWord_72, e_X4_hearWord_75, e_X4_hearWord_76, e_X4_hearWord_79, e_X4_hearWord_82, e_X4_hearWord_84, e_X4_hearWord_87, e_X4_hearWord_88, e_X4_hearWord_89, e_X4_hearWord_91, e_X4_hearWord_94, e_X4_hearWord_95, e_X4_hearWord_97, e_X4_hearWord_99, e_X4_hearWord_102, e_X4_hearWord_105, e_X4_hearWord_106, e_X4_hearWord_109, e_X4_hearWord_110, k1, q_00, if_true, if_false, Option.getD_some, Option.bind_some, Option.toList_some, Option.toList_none, List.cons_append, List.nil_append]
        rfl
      | some s3 =>
        rw [hs, Option.isSome_some, b1] at k1
        refine ⟨I2, R2, a2, b2, ?_, k2, fun s2 h => ?_⟩
        · simp (disch := first | exact rt_bo_0 | exact rt_bo_1 | exact ns_float | exact ns_int | exact ns_ref | assumption | omega | (simp (disch := omega) only [ob_17, rg_17_0 hR, rg_17_1 hR, rg_17_2 hR, ar_26, ln_26, ob_7, rg_7_0 hR, ar_8, ln_8, ob_9, rg_9_0 hR, ar_10, ln_10, rg_9_1 hR, ar_11, ln_11, rg_9_2 hR, ar_12, ln_12, rg_9_3 hR, ar_13, ln_13, rg_9_4 hR, ar_14, ln_14, ob_18, rg_18_0 hR, ar_19, ln_19, rg_18_1 hR, ar_20, ln_20, rg_18_2 hR, ar_21, ln_21, rg_18_3 hR, ar_22, ln_22, rt_in_nI, Option.isSome_some, Option.getD_some, Bool.or_true, Bool.true_or]; done) | fail) only [e_X4_hearWord_0, e_X4_hearWord_2, e_X4_hearWord_3, e_X4_hearWord_4, e_X4_hearWord_5, e_X4_hearWord_8, e_X4_hearWord_10, e_X4_hearWord_11, e_X4_hearWord_14, e_X4_hearWord_15, e_X4_hearWord_16, e_X4_hearWord_17, e_X4_hearWord_18, e_X4_hearWord_20, e_X4_hearWord_22, e_X4_hearWord_25, e_X4_hearWord_28, e_X4_hearWord_29, e_X4_hearWord_32, e_X4_hearWord_33, e_X4_hearWord_35, e_X4_hearWord_37, e_X4_hearWord_38, e_X4_hearWord_41, e_X4_hearWord_43, e_X4_hearWord_46, e_X4_hearWord_47, e_X4_hearWord_48, e_X4_hearWord_51, e_X4_hearWord_52, e_X4_hearWord_54, e_X4_hearWord_57, e_X4_hearWord_58, e_X4_hearWord_59, e_X4_hearWord_60, e_X4_hearWord_61, e_X4_hearWord_62, e_X4_hearWord_65, e_X4_hearWord_66, e_X4_hearWord_67, e_X4_hearWord_69, e_X4_hearWord_72, e_X4_hearWord_75, e_X4_hearWord_76, e_X4_hearWord_79, e_X4_hearWord_82, e_X4_hearWord_84, e_X4_hearWord_87, e_X4_hearWord_88, e_X4_hearWord_89, e_X4_hearWord_91, e_X4_hearWord_94, e_X4_hearWord_95, e_X4_hearWord_97, e_X4_hearWord_99, e_X4_hearWord_102, e_X4_hearWord_105, e_X4_hearWord_106, e_X4_hearWord_109, e_X4_hearWord_110, k1, q_10, if_true, if_false, Option.getD_some, Option.bind_some, Option.toList_some, Option.toList_none, List.cons_append, List.nil_append]
          rfl
        · cases h
          exact k3 s3 hs
theorem x_keepW_l (hR : RG R a b) (h10 : en ≤ 10) (hN : en ≤ N) : ∀ f i I, i + f = en → TX I N t → (∀ j, j < i → I 26 j = nI (t j)) → ∃ I2, Ev mX4_keepW 2 [.ref 17, .ref 7, .int (nI en), .int (nI i)] [] (71 + e, I, L, R) = Ev mX4_keepW 30 [.ref 17, .ref 7, .int (nI en), .int (nI en)] [] (71 + e, I2, L, R) ∧ (∀ c, c ≠ 26 → I2 c = I c) ∧ ∀ j, j < en → I2 26 j = nI (t j) := by
  have q10 : (10 : Int32) = nI 10 := rfl
  intro f
  induction f with
  | zero =>
    intro i I hi hT hj
    have e1 : i = en := by omega
    subst e1
    refine ⟨I, ?_, fun _ _ => rfl, hj⟩
    rw [e_X4_keepW_2]
    simp (disch := first | exact rt_bo_0 | exact rt_bo_1 | exact ns_float | exact ns_int | exact ns_ref | assumption | omega | (simp (disch := omega) only [ob_17, rg_17_0 hR, rg_17_1 hR, rg_17_2 hR, ar_26, ln_26, ob_7, rg_7_0 hR, ar_8, ln_8, rt_in_nI, Option.isSome_some, Option.getD_some, Bool.or_true, Bool.true_or]; done) | fail) only [e_X4_keepW_3, e_X4_keepW_4, q_le, Nat.le_refl, if_true]
  | succ f ih =>
    intro i I hi hT hj
    have c1 : ¬ en ≤ i := by omega
    have c2 : ¬ 10 ≤ i := by omega
    have hiN : i < N := by omega
    obtain ⟨I2, g1, g2, g3⟩ := ih (i + 1) (rt_up I 26 i (nI (t i))) (by omega) (TX_fr hT (fun c hc => rt_up_f (by omega))) (fun j hj2 => by
      by_cases e1 : j = i
      · rw [e1, rt_up_eq]
      · rw [rt_up_n2 e1]; exact hj j (by omega))
    refine ⟨I2, ?_, fun c hc => by rw [g2 c hc, rt_up_f hc], g3⟩
    rw [← g1, e_X4_keepW_2]
    simp (disch := first | exact rt_bo_0 | exact rt_bo_1 | exact ns_float | exact ns_int | exact ns_ref | assumption | omega | (simp (disch := omega) only [ob_17, rg_17_0 hR, rg_17_1 hR, rg_17_2 hR, ar_26, ln_26, ob_7, rg_7_0 hR, ar_8, ln_8, rt_in_nI, Option.isSome_some, Option.getD_some, Bool.or_true, Bool.true_or]; done) | fail) only [e_X4_keepW_0, e_X4_keepW_1, e_X4_keepW_3, e_X4_keepW_4, e_X4_keepW_7, e_X4_keepW_8, e_X4_keepW_10, e_X4_keepW_13, e_X4_keepW_14, e_X4_keepW_17, e_X4_keepW_18, e_X4_keepW_19, e_X4_keepW_20, e_X4_keepW_23, e_X4_keepW_24, e_X4_keepW_27, e_X4_keepW_31, e_X4_keepW_32, e_X4_keepW_35, e_X4_keepW_36, e_X4_keepW_37, e_X4_keepW_40, rg_17_2 hR, x_byte hR hT.2.1 hT.1 hiN, hT.2.2.1 i hiN, q10, q_le, c1, c2, nI_cl, q_s, if_false, Option.getD_some, Option.bind_some, Option.toList_some, Option.toList_none, List.cons_append, List.nil_append]
theorem sFirst_6 (h : sFirst c = some s) : s.1.2.1 ≠ 6 := by
  unfold sFirst at h
  by_cases g1 : c = 11 ∨ c = 12 ∨ c = 14
  · rw [if_pos g1, Option.some.injEq] at h
    subst h
    show c - 11 ≠ 6
    omega
  rw [if_neg g1] at h
  by_cases g2 : c = 13
  · rw [if_pos g2, Option.some.injEq] at h
    subst h
    show (2 : Nat) ≠ 6
    omega
  rw [if_neg g2] at h
  by_cases g3 : c = 15 ∨ c = 16
  · rw [if_pos g3, Option.some.injEq] at h
    subst h
    show c - 11 ≠ 6
    omega
  rw [if_neg g3] at h
  by_cases g4 : c = 18
  · rw [if_pos g4, Option.some.injEq] at h
    subst h
    show (7 : Nat) ≠ 6
    omega
  · rw [if_neg g4] at h; cases h
/-- what is kept of a W -/
def XW (I : Nat → Nat → Int32) (t : Nat → Nat) (en : Nat) : Prop := I 17 3 = nI en ∧ ∀ j, j < en → I 26 j = nI (t j)
theorem x_hw1 (hR : RG R a b) (ha : a = 24 ∨ a = 25) (hB : CB I a (sInit 0 0)) (hw : I 17 5 = 0) (hv : I 17 4 = -1) (hT : TX I N t) (hW : WX I nw wl) (hen : en ≤ n) (hn : n ≤ N) : ∃ I2, Ev mX4_hearWord 0 [.ref 17, .ref 7, .int (nI 0), .int (nI en), .int (nI n), .ref 9, .float 0, .float 0] [] (71 + e, I, L, R) = some (some (.int (nI (fN (sWord1 (fnd wl nw (txt t 0 en)) (mst t n (en + 1)) en)))), (71 + e, I2, L, R)) ∧ (∀ c, c < 17 ∨ 26 < c → I2 c = I c) ∧ I2 17 8 = 0 ∧ ∀ s2, sWord1 (fnd wl nw (txt t 0 en)) (mst t n (en + 1)) en = .inr s2 → CX I2 a s2 ∧ (s2.1.2.1 = 6 → XW I2 t en ∧ 2 ≤ en ∧ en ≤ 10) := by
  have hf := x_find (e := e) (L := L) (s := 0) (en := en) hR hT hW (by omega) (by omega)
  have hN := hT.1
  have w1 := hW.1
  have hm := x_meansStands (e := e) (L := L) (s := en + 1) hR hT hW hn (by omega)
  have h80 := CB_80 hB
  have hO := CB_O hB
  have m1 : ((-1 : Int32) = -1) = True := by decide
  have q6 : (6 : Int32) = nI 6 := rfl
  have q2 : (2 : Int32) = nI 2 := rfl
  have q10 : (10 : Int32) = nI 10 := rfl
  have b1 : b01 true = 1 := rfl
  have b0 : b01 false = 0 := rfl
  change I 18 5 = nI 0 at hO
  rw [nI_0] at hf ⊢
  unfold sWord1
  cases hc : fnd wl nw (txt t 0 en) with
  | none =>
    rw [hc] at hf
    dsimp only
    cases hW1 : mst t n (en + 1) with
    | false =>
      rw [hW1, b0] at hm
      rw [if_neg (by simp)]
      refine ⟨I, ?_, fun _ _ => rfl, h80, fun s2 h => by cases h⟩
      simp (disch := first | exact rt_bo_0 | exact rt_bo_1 | exact ns_float | exact ns_int | exact ns_ref | assumption | omega | (simp (disch := omega) only [ob_17, rg_17_0 hR, rg_17_1 hR, rg_17_2 hR, ar_26, ln_26, ob_7, rg_7_0 hR, ar_8, ln_8, ob_9, rg_9_0 hR, ar_10, ln_10, rg_9_1 hR, ar_11, ln_11, rg_9_2 hR, ar_12, ln_12, rg_9_3 hR, ar_13, ln_13, rg_9_4 hR, ar_14, ln_14, rt_in_nI, Option.isSome_some, Option.getD_some, Bool.or_true, Bool.true_or]; done) | fail) only [e_X4_hearWord_0, e_X4_hearWord_2, e_X4_hearWord_3, e_X4_hearWord_4, e_X4_hearWord_5, e_X4_hearWord_8, e_X4_hearWord_10, e_X4_hearWord_11, e_X4_hearWord_14, e_X4_hearWord_15, e_X4_hearWord_16, e_X4_hearWord_17, e_X4_hearWord_18, e_X4_hearWord_20, e_X4_hearWord_22, e_X4_hearWord_25, e_X4_hearWord_28, e_X4_hearWord_29, e_X4_hearWord_32, e_X4_hearWord_33, e_X4_hearWord_35, e_X4_hearWord_37, e_X4_hearWord_38, e_X4_hearWord_41, e_X4_hearWord_43, e_X4_hearWord_46, e_X4_hearWord_47, e_X4_hearWord_48, e_X4_hearWord_51, e_X4_hearWord_52, e_X4_hearWord_54, e_X4_hearWord_57, e_X4_hearWord_58, e_X4_hearWord_59, e_X4_hearWord_60, e_X4_hearWord_61, e_X4_hearWord_62, e_X4_hearWord_65, e_X4_hearWord_66, e_X4_hearWord_67, e_X4_hearWord_69, e_X4_hearWord_72, e_X4_hearWord_75, e_X4_hearWord_76, e_X4_hearWord_79, e_X4_hearWord_82, e_X4_hearWord_84, e_X4_hearWord_87, e_X4_hearWord_88, e_X4_hearWord_89, e_X4_hearWord_91, e_X4_hearWord_94, e_X4_hearWord_95, e_X4_hearWord_96, e_X4_hearWord_97, e_X4_hearWord_99, e_X4_hearWord_102, e_X4_hearWord_105, e_X4_hearWord_106, e_X4_hearWord_109, e_X4_hearWord_110, hf, oX, q_s, hm, m1, q_00, if_true, if_false, Option.getD_some, Option.bind_some, Option.toList_some, Option.toList_none, List.cons_append, List.nil_append]
      rfl
    | true =>
      rw [hW1, b1] at hm
      by_cases g : 2 ≤ en ∧ en ≤ 10
      · rw [if_pos ⟨rfl, g⟩]
        have c1 : ¬ en < 2 := by omega
        have c2 : en ≤ 10 := by omega
        obtain ⟨IA, k1, k2, k3⟩ := x_keepW_l (e := e) (L := L) hR g.2 (show en ≤ N by omega) en 0 I (by omega) hT (fun j hj => by omega)
        rw [nI_0] at k1
        refine ⟨rt_up (rt_up IA 17 3 (nI en)) 17 5 (nI 2), ?_, fun c hc => by rw [rt_up_f (by omega), rt_up_f (by omega), k2 c (by omega)], by rw [rt_up_n2 (by decide), rt_up_n2 (by decide), k2 17 (by decide)]; exact h80, fun s2 h => ?_⟩
        · simp (disch := first | exact rt_bo_0 | exact rt_bo_1 | exact ns_float | exact ns_int | exact ns_ref | assumption | omega | (simp (disch := omega) only [ob_17, rg_17_0 hR, rg_17_1 hR, rg_17_2 hR, ar_26, ln_26, ob_7, rg_7_0 hR, ar_8, ln_8, ob_9, rg_9_0 hR, ar_10, ln_10, rg_9_1 hR, ar_11, ln_11, rg_9_2 hR, ar_12, ln_12, rg_9_3 hR, ar_13, ln_13, rg_9_4 hR, ar_14, ln_14, rt_in_nI, Option.isSome_some, Option.getD_some, Bool.or_true, Bool.true_or]; done) | fail) only [e_X4_hearWord_0, e_X4_hearWord_2, e_X4_hearWord_3, e_X4_hearWord_4, e_X4_hearWord_5, e_X4_hearWord_8, e_X4_hearWord_10, e_X4_hearWord_11, e_X4_hearWord_14, e_X4_hearWord_15, e_X4_hearWord_16, e_X4_hearWord_17, e_X4_hearWord_18, e_X4_hearWord_20, e_X4_hearWord_22, e_X4_hearWord_25, e_X4_hearWord_28, e_X4_hearWord_29, e_X4_hearWord_32, e_X4_hearWord_33, e_X4_hearWord_35, e_X4_hearWord_37, e_X4_hearWord_38, e_X4_hearWord_41, e_X4_hearWord_43, e_X4_hearWord_46, e_X4_hearWord_47, e_X4_hearWord_48, e_X4_hearWord_51, e_X4_hearWord_52, e_X4_hearWord_54, e_X4_hearWord_57, e_X4_hearWord_58, e_X4_hearWord_59, e_X4_hearWord_60, e_X4_hearWord_61, e_X4_hearWord_62, e_X4_hearWord_65, e_X4_hearWord_66, e_X4_hearWord_67, e_X4_hearWord_69, e_X4_hearWord_72, e_X4_hearWord_75, e_X4_hearWord_76, e_X4_hearWord_79, e_X4_hearWord_82, e_X4_hearWord_84, e_X4_hearWord_87, e_X4_hearWord_88, e_X4_hearWord_89, e_X4_hearWord_91, e_X4_hearWord_94, e_X4_hearWord_95, e_X4_hearWord_96, e_X4_hearWord_97, e_X4_hearWord_99, e_X4_hearWord_102, e_X4_hearWord_105, e_X4_hearWord_106, e_X4_hearWord_109, e_X4_hearWord_110, e_X4_keepW_0, e_X4_keepW_1, e_X4_keepW_3, e_X4_keepW_4, e_X4_keepW_7, e_X4_keepW_8, e_X4_keepW_10, e_X4_keepW_13, e_X4_keepW_14, e_X4_keepW_17, e_X4_keepW_18, e_X4_keepW_19, e_X4_keepW_20, e_X4_keepW_23, e_X4_keepW_24, e_X4_keepW_27, e_X4_keepW_30, e_X4_keepW_31, e_X4_keepW_32, e_X4_keepW_35, e_X4_keepW_36, e_X4_keepW_37, e_X4_keepW_40, hf, oX, q_s, hm, m1, q_10, q2, q10, q_lt, q_le, c1, c2, k1, if_true, if_false, Option.getD_some, Option.bind_some, Option.toList_some, Option.toList_none, List.cons_append, List.nil_append]
          rfl
        · cases h
          have fI : ∀ c, c ≠ 17 → c ≠ 26 → (rt_up (rt_up IA 17 3 (nI en)) 17 5 (nI 2)) c = I c := fun c h1 h2 => by rw [rt_up_f h1, rt_up_f h1, k2 c h2]
          obtain ⟨⟨h1, h2, h3⟩, ⟨h4, h5, h6, h7⟩, ⟨h8, h9, h10⟩⟩ := hB
          refine ⟨⟨⟨⟨?_, ?_, ?_⟩, ⟨?_, ?_, fun k hk => absurd hk (by omega), fun i hi => absurd hi (by omega)⟩, ⟨?_, ?_, RX_fr h10 (fI a (by omega) (by omega))⟩⟩, rt_up_eq, ?_⟩, fun _ => ⟨⟨?_, fun j hj => ?_⟩, g⟩⟩
          · rw [rt_up_n2 (by decide), rt_up_n2 (by decide), k2 17 (by decide)]; exact h1
          · rw [rt_up_n2 (by decide), rt_up_n2 (by decide), k2 17 (by decide)]; exact h2
          · rw [rt_up_n2 (by decide), rt_up_n2 (by decide), k2 17 (by decide)]; exact h3
          · rw [fI 18 (by decide) (by decide)]; exact h4
          · rw [fI 18 (by decide) (by decide)]; exact h5
          · rw [fI 23 (by decide) (by decide)]; exact h8
          · rw [fI 23 (by decide) (by decide)]; exact h9
          · rw [rt_up_n2 (by decide), rt_up_n2 (by decide), k2 17 (by decide)]; exact hv
          · rw [rt_up_n2 (by decide), rt_up_eq]
          · rw [rt_up_n1 (by decide), rt_up_n1 (by decide)]; exact k3 j hj
      · rw [if_neg (fun h => g h.2)]
        refine ⟨I, ?_, fun _ _ => rfl, h80, fun s2 h => by cases h⟩
        by_cases c1 : en < 2
        · simp (disch := first | exact rt_bo_0 | exact rt_bo_1 | exact ns_float | exact ns_int | exact ns_ref | assumption | omega | (simp (disch := omega) only [ob_17, rg_17_0 hR, rg_17_1 hR, rg_17_2 hR, ar_26, ln_26, ob_7, rg_7_0 hR, ar_8, ln_8, ob_9, rg_9_0 hR, ar_10, ln_10, rg_9_1 hR, ar_11, ln_11, rg_9_2 hR, ar_12, ln_12, rg_9_3 hR, ar_13, ln_13, rg_9_4 hR, ar_14, ln_14, rt_in_nI, Option.isSome_some, Option.getD_some, Bool.or_true, Bool.true_or]; done) | fail) only [e_X4_hearWord_0, e_X4_hearWord_2, e_X4_hearWord_3, e_X4_hearWord_4, e_X4_hearWord_5, e_X4_hearWord_8, e_X4_hearWord_10, e_X4_hearWord_11, e_X4_hearWord_14, e_X4_hearWord_15, e_X4_hearWord_16, e_X4_hearWord_17, e_X4_hearWord_18, e_X4_hearWord_20, e_X4_hearWord_22, e_X4_hearWord_25, e_X4_hearWord_28, e_X4_hearWord_29, e_X4_hearWord_32, e_X4_hearWord_33, e_X4_hearWord_35, e_X4_hearWord_37, e_X4_hearWord_38, e_X4_hearWord_41, e_X4_hearWord_43, e_X4_hearWord_46, e_X4_hearWord_47, e_X4_hearWord_48, e_X4_hearWord_51, e_X4_hearWord_52, e_X4_hearWord_54, e_X4_hearWord_57, e_X4_hearWord_58, e_X4_hearWord_59, e_X4_hearWord_60, e_X4_hearWord_61, e_X4_hearWord_62, e_X4_hearWord_65, e_X4_hearWord_66, e_X4_hearWord_67, e_X4_hearWord_69, e_X4_hearWord_72, e_X4_hearWord_75, e_X4_hearWord_76, e_X4_hearWord_79, e_X4_hearWord_82, e_X4_hearWord_84, e_X4_hearWord_87, e_X4_hearWord_88, e_X4_hearWord_89, e_X4_hearWord_91, e_X4_hearWord_94, e_X4_hearWord_95, e_X4_hearWord_96, e_X4_hearWord_97, e_X4_hearWord_99, e_X4_hearWord_102, e_X4_hearWord_105, e_X4_hearWord_106, e_X4_hearWord_109, e_X4_hearWord_110, hf, oX, q_s, hm, m1, q_10, q_00, q2, q_lt, c1, if_true, if_false, Option.getD_some, Option.bind_some, Option.toList_some, Option.toList_none, List.cons_append, List.nil_append]
          rfl
        · have c2 : ¬ en ≤ 10 := by omega
          simp (disch := first | exact rt_bo_0 | exact rt_bo_1 | exact ns_float | exact ns_int | exact ns_ref | assumption | omega | (simp (disch := omega) only [ob_17, rg_17_0 hR, rg_17_1 hR, rg_17_2 hR, ar_26, ln_26, ob_7, rg_7_0 hR, ar_8, ln_8, ob_9, rg_9_0 hR, ar_10, ln_10, rg_9_1 hR, ar_11, ln_11, rg_9_2 hR, ar_12, ln_12, rg_9_3 hR, ar_13, ln_13, rg_9_4 hR, ar_14, ln_14, rt_in_nI, Option.isSome_some, Option.getD_some, Bool.or_true, Bool.true_or]; done) | fail) only [e_X4_hearWord_0, e_X4_hearWord_2, e_X4_hearWord_3, e_X4_hearWord_4, e_X4_hearWord_5, e_X4_hearWord_8, e_X4_hearWord_10, e_X4_hearWord_11, e_X4_hearWord_14, e_X4_hearWord_15, e_X4_hearWord_16, e_X4_hearWord_17, e_X4_hearWord_18, e_X4_hearWord_20, e_X4_hearWord_22, e_X4_hearWord_25, e_X4_hearWord_28, e_X4_hearWord_29, e_X4_hearWord_32, e_X4_hearWord_33, e_X4_hearWord_35, e_X4_hearWord_37, e_X4_hearWord_38, e_X4_hearWord_41, e_X4_hearWord_43, e_X4_hearWord_46, e_X4_hearWord_47, e_X4_hearWord_48, e_X4_hearWord_51, e_X4_hearWord_52, e_X4_hearWord_54, e_X4_hearWord_57, e_X4_hearWord_58, e_X4_hearWord_59, e_X4_hearWord_60, e_X4_hearWord_61, e_X4_hearWord_62, e_X4_hearWord_65, e_X4_hearWord_66, e_X4_hearWord_67, e_X4_hearWord_69, e_X4_hearWord_72, e_X4_hearWord_75, e_X4_hearWord_76, e_X4_hearWord_79, e_X4_hearWord_82, e_X4_hearWord_84, e_X4_hearWord_87, e_X4_hearWord_88, e_X4_hearWord_89, e_X4_hearWord_91, e_X4_hearWord_94, e_X4_hearWord_95, e_X4_hearWord_96, e_X4_hearWord_97, e_X4_hearWord_99, e_X4_hearWord_102, e_X4_hearWord_105, e_X4_hearWord_106, e_X4_hearWord_109, e_X4_hearWord_110, hf, oX, q_s, hm, m1, q_10, q_00, q2, q10, q_lt, q_le, c1, c2, if_true, if_false, Option.getD_some, Option.bind_some, Option.toList_some, Option.toList_none, List.cons_append, List.nil_append]
          rfl
  | some c =>
    rw [hc] at hf
    have hcl := fnd_lt hc
    have hce : (nI c = -1) = False := q_e1 (by omega)
    have hon := x_isOn (c := c) (by omega) (h := (71 + e, I, L, R))
    have c06 : (0 : Nat) < 6 := by decide
    dsimp only
    cases hW1 : mst t n (en + 1) with
    | true =>
      rw [hW1, b1] at hm
      rw [if_pos rfl]
      refine ⟨I, ?_, fun _ _ => rfl, h80, fun s2 h => by cases h⟩
      by_cases g5 : 25 ≤ c ∧ c ≤ 27
      · rw [decide_eq_true g5, b1] at hon
        simp (disch := first | exact rt_bo_0 | exact rt_bo_1 | exact ns_float | exact ns_int | exact ns_ref | assumption | omega | (simp (disch := omega) only [ob_17, rg_17_0 hR, rg_17_1 hR, rg_17_2 hR, ar_26, ln_26, ob_7, rg_7_0 hR, ar_8, ln_8, ob_9, rg_9_0 hR, ar_10, ln_10, rg_9_1 hR, ar_11, ln_11, rg_9_2 hR, ar_12, ln_12, rg_9_3 hR, ar_13, ln_13, rg_9_4 hR, ar_14, ln_14, ob_18, rg_18_0 hR, ar_19, ln_19, rg_18_1 hR, ar_20, ln_20, rg_18_2 hR, ar_21, ln_21, rg_18_3 hR, ar_22, ln_22, rt_in_nI, Option.isSome_some, Option.getD_some, Bool.or_true, Bool.true_or]; done) | fail) only [e_X4_hearWord_0, e_X4_hearWord_2, e_X4_hearWord_3, e_X4_hearWord_4, e_X4_hearWord_5, e_X4_hearWord_8, e_X4_hearWord_10, e_X4_hearWord_11, e_X4_hearWord_14, e_X4_hearWord_15, e_X4_hearWord_16, e_X4_hearWord_17, e_X4_hearWord_18, e_X4_hearWord_20, e_X4_hearWord_22, e_X4_hearWord_25, e_X4_hearWord_28, e_X4_hearWord_29, e_X4_hearWord_32, e_X4_hearWord_33, e_X4_hearWord_35, e_X4_hearWord_37, e_X4_hearWord_38, e_X4_hearWord_41, e_X4_hearWord_43, e_X4_hearWord_46, e_X4_hearWord_47, e_X4_hearWord_48, e_X4_hearWord_51, e_X4_hearWord_52, e_X4_hearWord_54, e_X4_hearWord_57, e_X4_hearWord_58, e_X4_hearWord_59, e_X4_hearWord_60, e_X4_hearWord_61, e_X4_hearWord_62, e_X4_hearWord_65, e_X4_hearWord_66, e_X4_hearWord_67, e_X4_hearWord_69, e_X4_hearWord_72, e_X4_hearWord_75, e_X4_hearWord_76, e_X4_hearWord_79, e_X4_hearWord_82, e_X4_hearWord_84, e_X4_hearWord_87, e_X4_hearWord_88, e_X4_hearWord_89, e_X4_hearWord_91, e_X4_hearWord_94, e_X4_hearWord_95, e_X4_hearWord_96, e_X4_hearWord_97, e_X4_hearWord_99, e_X4_hearWord_102, e_X4_hearWord_105, e_X4_hearWord_106, e_X4_hearWord_109, e_X4_hearWord_110, e_X1_onwards_0, e_X1_onwards_1, e_X1_onwards_4, rg_17_0 hR, hf, oX, q_s, hm, hce, hon, hO, q6, q_lt, c06, q_10, q_00, if_true, if_false, Option.getD_some, Option.bind_some, Option.toList_some, Option.toList_none, List.cons_append, List.nil_append]
        rfl
      · rw [decide_eq_false g5, b0] at hon
        simp (disch := first | exact rt_bo_0 | exact rt_bo_1 | exact ns_float | exact ns_int | exact ns_ref | assumption | omega | (simp (disch := omega) only [ob_17, rg_17_0 hR, rg_17_1 hR, rg_17_2 hR, ar_26, ln_26, ob_7, rg_7_0 hR, ar_8, ln_8, ob_9, rg_9_0 hR, ar_10, ln_10, rg_9_1 hR, ar_11, ln_11, rg_9_2 hR, ar_12, ln_12, rg_9_3 hR, ar_13, ln_13, rg_9_4 hR, ar_14, ln_14, ob_18, rg_18_0 hR, ar_19, ln_19, rg_18_1 hR, ar_20, ln_20, rg_18_2 hR, ar_21, ln_21, rg_18_3 hR, ar_22, ln_22, rt_in_nI, Option.isSome_some, Option.getD_some, Bool.or_true, Bool.true_or]; done) | fail) only [e_X4_hearWord_0, e_X4_hearWord_2, e_X4_hearWord_3, e_X4_hearWord_4, e_X4_hearWord_5, e_X4_hearWord_8, e_X4_hearWord_10, e_X4_hearWord_11, e_X4_hearWord_14, e_X4_hearWord_15, e_X4_hearWord_16, e_X4_hearWord_17, e_X4_hearWord_18, e_X4_hearWord_20, e_X4_hearWord_22, e_X4_hearWord_25, e_X4_hearWord_28, e_X4_hearWord_29, e_X4_hearWord_32, e_X4_hearWord_33, e_X4_hearWord_35, e_X4_hearWord_37, e_X4_hearWord_38, e_X4_hearWord_41, e_X4_hearWord_43, e_X4_hearWord_46, e_X4_hearWord_47, e_X4_hearWord_48, e_X4_hearWord_51, e_X4_hearWord_52, e_X4_hearWord_54, e_X4_hearWord_57, e_X4_hearWord_58, e_X4_hearWord_59, e_X4_hearWord_60, e_X4_hearWord_61, e_X4_hearWord_62, e_X4_hearWord_65, e_X4_hearWord_66, e_X4_hearWord_67, e_X4_hearWord_69, e_X4_hearWord_72, e_X4_hearWord_75, e_X4_hearWord_76, e_X4_hearWord_79, e_X4_hearWord_82, e_X4_hearWord_84, e_X4_hearWord_87, e_X4_hearWord_88, e_X4_hearWord_89, e_X4_hearWord_91, e_X4_hearWord_94, e_X4_hearWord_95, e_X4_hearWord_96, e_X4_hearWord_97, e_X4_hearWord_99, e_X4_hearWord_102, e_X4_hearWord_105, e_X4_hearWord_106, e_X4_hearWord_109, e_X4_hearWord_110, hf, oX, q_s, hm, hce, hon, q_10, q_00, if_true, if_false, Option.getD_some, Option.bind_some, Option.toList_some, Option.toList_none, List.cons_append, List.nil_append]
        rfl
    | false =>
      rw [hW1, b0] at hm
      rw [if_neg (by simp)]
      obtain ⟨I2, k1, k2, k3⟩ := x_first (e := e) (L := L) (c := c) hR ha hB hw (by omega)
      have stA : Ev mX4_hearWord 0 [.ref 17, .ref 7, .int 0, .int (nI en), .int (nI n), .ref 9, .float 0, .float 0] [] (71 + e, I, L, R) = Ev mX4_hearWord 96 [.ref 17, .ref 7, .int 0, .int (nI en), .int (nI n), .ref 9, .int (nI c), .int 0] [] (71 + e, I, L, R) := by
        by_cases g5 : 25 ≤ c ∧ c ≤ 27
        · rw [decide_eq_true g5, b1] at hon
          simp (disch := first | exact rt_bo_0 | exact rt_bo_1 | exact ns_float | exact ns_int | exact ns_ref | assumption | omega | (simp (disch := omega) only [ob_17, rg_17_0 hR, rg_17_1 hR, rg_17_2 hR, ar_26, ln_26, ob_7, rg_7_0 hR, ar_8, ln_8, ob_9, rg_9_0 hR, ar_10, ln_10, rg_9_1 hR, ar_11, ln_11, rg_9_2 hR, ar_12, ln_12, rg_9_3 hR, ar_13, ln_13, rg_9_4 hR, ar_14, ln_14, ob_18, rg_18_0 hR, ar_19, ln_19, rg_18_1 hR, ar_20, ln_20, rg_18_2 hR, ar_21, ln_21, rg_18_3 hR, ar_22, ln_22, rt_in_nI, Option.isSome_some, Option.getD_some, Bool.or_true, Bool.true_or]; done) | fail) only [e_X4_hearWord_0, e_X4_hearWord_2, e_X4_hearWord_3, e_X4_hearWord_4, e_X4_hearWord_5, e_X4_hearWord_8, e_X4_hearWord_10, e_X4_hearWord_11, e_X4_hearWord_14, e_X4_hearWord_15, e_X4_hearWord_16, e_X4_hearWord_17, e_X4_hearWord_18, e_X4_hearWord_20, e_X4_hearWord_22, e_X4_hearWord_25, e_X4_hearWord_28, e_X4_hearWord_29, e_X4_hearWord_32, e_X4_hearWord_33, e_X4_hearWord_35, e_X4_hearWord_37, e_X4_hearWord_38, e_X4_hearWord_41, e_X4_hearWord_43, e_X4_hearWord_46, e_X4_hearWord_47, e_X4_hearWord_48, e_X4_hearWord_51, e_X4_hearWord_52, e_X4_hearWord_54, e_X4_hearWord_57, e_X4_hearWord_58, e_X4_hearWord_59, e_X4_hearWord_60, e_X4_hearWord_61, e_X4_hearWord_62, e_X4_hearWord_65, e_X4_hearWord_66, e_X4_hearWord_67, e_X4_hearWord_69, e_X4_hearWord_72, e_X4_hearWord_75, e_X4_hearWord_76, e_X4_hearWord_79, e_X4_hearWord_82, e_X4_hearWord_84, e_X4_hearWord_87, e_X4_hearWord_88, e_X4_hearWord_89, e_X4_hearWord_91, e_X4_hearWord_94, e_X4_hearWord_95, e_X4_hearWord_97, e_X4_hearWord_99, e_X4_hearWord_102, e_X4_hearWord_105, e_X4_hearWord_106, e_X4_hearWord_109, e_X4_hearWord_110, e_X1_onwards_0, e_X1_onwards_1, e_X1_onwards_4, rg_17_0 hR, hf, oX, q_s, hm, hce, hon, hO, q6, q_lt, c06, q_10, q_00, if_true, if_false, Option.getD_some, Option.bind_some, Option.toList_some, Option.toList_none, List.cons_append, List.nil_append]
        · rw [decide_eq_false g5, b0] at hon
          simp (disch := first | exact rt_bo_0 | exact rt_bo_1 | exact ns_float | exact ns_int | exact ns_ref | assumption | omega | (simp (disch := omega) only [ob_17, rg_17_0 hR, rg_17_1 hR, rg_17_2 hR, ar_26, ln_26, ob_7, rg_7_0 hR, ar_8, ln_8, ob_9, rg_9_0 hR, ar_10, ln_10, rg_9_1 hR, ar_11, ln_11, rg_9_2 hR, ar_12, ln_12, rg_9_3 hR, ar_13, ln_13, rg_9_4 hR, ar_14, ln_14, ob_18, rg_18_0 hR, ar_19, ln_19, rg_18_1 hR, ar_20, ln_20, rg_18_2 hR, ar_21, ln_21, rg_18_3 hR, ar_22, ln_22, rt_in_nI, Option.isSome_some, Option.getD_some, Bool.or_true, Bool.true_or]; done) | fail) only [e_X4_hearWord_0, e_X4_hearWord_2, e_X4_hearWord_3, e_X4_hearWord_4, e_X4_hearWord_5, e_X4_hearWord_8, e_X4_hearWord_10, e_X4_hearWord_11, e_X4_hearWord_14, e_X4_hearWord_15, e_X4_hearWord_16, e_X4_hearWord_17, e_X4_hearWord_18, e_X4_hearWord_20, e_X4_hearWord_22, e_X4_hearWord_25, e_X4_hearWord_28, e_X4_hearWord_29, e_X4_hearWord_32, e_X4_hearWord_33, e_X4_hearWord_35, e_X4_hearWord_37, e_X4_hearWord_38, e_X4_hearWord_41, e_X4_hearWord_43, e_X4_hearWord_46, e_X4_hearWord_47, e_X4_hearWord_48, e_X4_hearWord_51, e_X4_hearWord_52, e_X4_hearWord_54, e_X4_hearWord_57, e_X4_hearWord_58, e_X4_hearWord_59, e_X4_hearWord_60, e_X4_hearWord_61, e_X4_hearWord_62, e_X4_hearWord_65, e_X4_hearWord_66, e_X4_hearWord_67, e_X4_hearWord_69, e_X4_hearWord_72, e_X4_hearWord_75, e_X4_hearWord_76, e_X4_hearWord_79, e_X4_hearWord_82, e_X4_hearWord_84, e_X4_hearWord_87, e_X4_hearWord_88, e_X4_hearWord_89, e_X4_hearWord_91, e_X4_hearWord_94, e_X4_hearWord_95, e_X4_hearWord_97, e_X4_hearWord_99, e_X4_hearWord_102, e_X4_hearWord_105, e_X4_hearWord_106, e_X4_hearWord_109, e_X4_hearWord_110, hf, oX, q_s, hm, hce, hon, q_10, q_00, if_true, if_false, Option.getD_some, Option.bind_some, Option.toList_some, Option.toList_none, List.cons_append, List.nil_append]
      rw [stA, e_X4_hearWord_96]
      have h82 : I2 17 8 = 0 := by rw [k2.2.2]; exact h80
      cases hs : sFirst c with
      | none =>
        rw [hs, Option.isSome_none, b0] at k1
        refine ⟨I2, ?_, fun c hc => k2.1 c (by omega), h82, fun s2 h => by cases h⟩
        simp (disch := first | exact rt_bo_0 | exact rt_bo_1 | exact ns_float | exact ns_int | exact ns_ref | assumption | omega | (simp (disch := omega) only [ob_17, rg_17_0 hR, rg_17_1 hR, rg_17_2 hR, ar_26, ln_26, ob_7, rg_7_0 hR, ar_8, ln_8, ob_9, rg_9_0 hR, ar_10, ln_10, rg_9_1 hR, ar_11, ln_11, rg_9_2 hR, ar_12, ln_12, rg_9_3 hR, ar_13, ln_13, rg_9_4 hR, ar_14, ln_14, ob_18, rg_18_0 hR, ar_19, ln_19, rg_18_1 hR, ar_20, ln_20, rg_18_2 hR, ar_21, ln_21, rg_18_3 hR, ar_22, ln_22, rt_in_nI, Option.isSome_some, Option.getD_some, Bool.or_true, Bool.true_or]; done) | fail) only [e_X4_hearWord_0, e_X4_hearWord_2, e_X4_hearWord_3, e_X4_hearWord_4, e_X4_hearWord_5, e_X4_hearWord_8, e_X4_hearWord_10, e_X4_hearWord_11, e_X4_hearWord_14, e_X4_hearWord_15, e_X4_hearWord_16, e_X4_hearWord_17, e_X4_hearWord_18, e_X4_hearWord_20, e_X4_hearWord_22, e_X4_hearWord_25, e_X4_hearWord_28, e_X4_hearWord_29, e_X4_hearWord_32, e_X4_hearWord_33, e_X4_hearWord_35, e_X4_hearWord_37, e_X4_hearWord_38, e_X4_hearWord_41, e_X4_hearWord_43, e_X4_hearWord_46, e_X4_hearWord_47, e_X4_hearWord_48, e_X4_hearWord_51, e_X4_hearWord_52, e_X4_hearWord_54, e_X4_hearWord_57, e_X4_hearWord_58, e_X4_hearWord_59, e_X4_hearWord_60, e_X4_hearWord_61, e_X4_hearWord_62, e_X4_hearWord_65, e_X4_hearWord_66, e_X4_hearWord_67, e_X4_hearWord_69, e_X4_hearWord_72, e_X4_hearWord_75, e_X4_hearWord_76, e_X4_hearWord_79, e_X4_hearWord_82, e_X4_hearWord_84, e_X4_hearWord_87, e_X4_hearWord_88, e_X4_hearWord_89, e_X4_hearWord_91, e_X4_hearWord_94, e_X4_hearWord_95, e_X4_hearWord_97, e_X4_hearWord_99, e_X4_hearWord_102, e_X4_hearWord_105, e_X4_hearWord_106, e_X4_hearWord_109, e_X4_hearWord_110, k1, q_00, if_true, if_false, Option.getD_some, Option.bind_some, Option.toList_some, Option.toList_none, List.cons_append, List.nil_append]
        rfl
      | some s3 =>
        rw [hs, Option.isSome_some, b1] at k1
        refine ⟨I2, ?_, fun c hc => k2.1 c (by omega), h82, fun s2 h => ?_⟩
        · simp (disch := first | exact rt_bo_0 | exact rt_bo_1 | exact ns_float | exact ns_int | exact ns_ref | assumption | omega | (simp (disch := omega) only [ob_17, rg_17_0 hR, rg_17_1 hR, rg_17_2 hR, ar_26, ln_26, ob_7, rg_7_0 hR, ar_8, ln_8, ob_9, rg_9_0 hR, ar_10, ln_10, rg_9_1 hR, ar_11, ln_11, rg_9_2 hR, ar_12, ln_12, rg_9_3 hR, ar_13, ln_13, rg_9_4 hR, ar_14, ln_14, ob_18, rg_18_0 hR, ar_19, ln_19, rg_18_1 hR, ar_20, ln_20, rg_18_2 hR, ar_21, ln_21, rg_18_3 hR, ar_22, ln_22, rt_in_nI, Option.isSome_some, Option.getD_some, Bool.or_true, Bool.true_or]; done) | fail) only [e_X4_hearWord_0, e_X4_hearWord_2, e_X4_hearWord_3, e_X4_hearWord_4, e_X4_hearWord_5, e_X4_hearWord_8, e_X4_hearWord_10, e_X4_hearWord_11, e_X4_hearWord_14, e_X4_hearWord_15, e_X4_hearWord_16, e_X4_hearWord_17, e_X4_hearWord_18, e_X4_hearWord_20, e_X4_hearWord_22, e_X4_hearWord_25, e_X4_hearWord_28, e_X4_hearWord_29, e_X4_hearWord_32, e_X4_hearWord_33, e_X4_hearWord_35, e_X4_hearWord_37, e_X4_hearWord_38, e_X4_hearWord_41, e_X4_hearWord_43, e_X4_hearWord_46, e_X4_hearWord_47, e_X4_hearWord_48, e_X4_hearWord_51, e_X4_hearWord_52, e_X4_hearWord_54, e_X4_hearWord_57, e_X4_hearWord_58, e_X4_hearWord_59, e_X4_hearWord_60, e_X4_hearWord_61, e_X4_hearWord_62, e_X4_hearWord_65, e_X4_hearWord_66, e_X4_hearWord_67, e_X4_hearWord_69, e_X4_hearWord_72, e_X4_hearWord_75, e_X4_hearWord_76, e_X4_hearWord_79, e_X4_hearWord_82, e_X4_hearWord_84, e_X4_hearWord_87, e_X4_hearWord_88, e_X4_hearWord_89, e_X4_hearWord_91, e_X4_hearWord_94, e_X4_hearWord_95, e_X4_hearWord_97, e_X4_hearWord_99, e_X4_hearWord_102, e_X4_hearWord_105, e_X4_hearWord_106, e_X4_hearWord_109, e_X4_hearWord_110, k1, q_10, if_true, if_false, Option.getD_some, Option.bind_some, Option.toList_some, Option.toList_none, List.cons_append, List.nil_append]
          rfl
        · cases h
          exact ⟨k3 s3 hs, fun h6 => absurd h6 (sFirst_6 hs)⟩
theorem x_canEnd (hR : RG R a b) (ha : a = 24 ∨ a = 25) (hX : CX I a s) (hS : SW nw s) : ∃ I2, Ev mX4_canEnd 0 [.ref 17] [] (71 + e, I, L, R) = some (some (.int (b01 (sEnd s).isSome)), (71 + e, I2, L, R)) ∧ FrG I I2 ∧ ∀ s3, sEnd s = some s3 → CX I2 a s3 := by
  obtain ⟨⟨md, fm, dn⟩, ⟨⟨P, O⟩, K, Lk, Nn, Rl⟩, W⟩ := s
  obtain ⟨⟨a1, a2, a3, a4⟩, hP7, hl⟩ := SW_a hS
  have hX0 := hX
  obtain ⟨hB, hw, hv⟩ := hX
  obtain ⟨-, -, -, -, e1, e2, e3, -, -⟩ := hS
  change I 17 5 = nI md at hw
  change I 17 4 = vbS md fm at hv
  have q6 : (6 : Int32) = nI 6 := rfl
  have q7 : (7 : Int32) = nI 7 := rfl
  have q11 : (11 : Int32) = nI 11 := rfl
  have q14 : (14 : Int32) = nI 14 := rfl
  have b1 : b01 true = 1 := rfl
  have b0 : b01 false = 0 := rfl
  have hv11 : (nI (vbX fm) = nI 11) = (fm = 0) := by rw [vb_eq a3 (by decide), vb_11 a3]
  have hv14 : (nI (vbX fm) = nI 14) = (fm = 3) := by rw [vb_eq a3 (by decide), vb_14 a3]
  have t6 : (nI 6 = nI 6) = True := eq_true rfl
  unfold sEnd
  dsimp only
  by_cases g1 : md = 6
  · subst g1
    change I 17 4 = nI (vbX fm) at hv
    by_cases g2 : fm = 0 ∨ fm = 3
    · rw [if_pos ⟨rfl, g2⟩]
      have hB0 := hB
      obtain ⟨⟨h1, h2, h3⟩, ⟨h4, h5, h6, h7⟩, ⟨h8, h9, h10⟩⟩ := hB0
      obtain ⟨I2, k1, k2, k3, k4, k5⟩ := x_keep (e := e) (L := L) (has := true) (K := K) hR ha a4 h8 h9 hl e2 h10
      have fr : FrG I I2 := ⟨fun c hc => k2 c (by omega) (by omega), by rw [k2 17 (by omega) (by decide)], by rw [k2 17 (by omega) (by decide)]⟩
      have stA : Ev mX4_canEnd 0 [.ref 17] [] (71 + e, I, L, R) = Ev mX4_canEnd 27 [.ref 17] [] (71 + e, I, L, R) := by
        rcases g2 with g | g
        · rw [eq_true g] at hv11
          simp (disch := first | exact rt_bo_0 | exact rt_bo_1 | exact ns_float | exact ns_int | exact ns_ref | assumption | omega | (simp (disch := omega) only [ob_17, rg_17_0 hR, rg_17_1 hR, rg_17_2 hR, ar_26, ln_26, rt_in_nI, Option.isSome_some, Option.getD_some, Bool.or_true, Bool.true_or]; done) | fail) only [e_X4_canEnd_0, e_X4_canEnd_1, e_X4_canEnd_4, e_X4_canEnd_6, e_X4_canEnd_9, e_X4_canEnd_10, e_X4_canEnd_13, e_X4_canEnd_15, e_X4_canEnd_18, e_X4_canEnd_19, e_X4_canEnd_22, e_X4_canEnd_24, e_X4_canEnd_28, e_X4_canEnd_31, e_X4_canEnd_32, e_X4_canEnd_35, e_X4_canEnd_36, e_X4_canEnd_37, e_X4_canEnd_40, e_X4_canEnd_42, e_X4_canEnd_45, e_X4_canEnd_46, e_X4_canEnd_49, e_X4_canEnd_51, e_X4_canEnd_54, e_X4_canEnd_55, e_X4_canEnd_58, e_X4_canEnd_59, hw, q6, t6, hv, q11, hv11, if_true, if_false]
        · rw [eq_false (show ¬ fm = 0 by omega)] at hv11
          rw [eq_true g] at hv14
          simp (disch := first | exact rt_bo_0 | exact rt_bo_1 | exact ns_float | exact ns_int | exact ns_ref | assumption | omega | (simp (disch := omega) only [ob_17, rg_17_0 hR, rg_17_1 hR, rg_17_2 hR, ar_26, ln_26, rt_in_nI, Option.isSome_some, Option.getD_some, Bool.or_true, Bool.true_or]; done) | fail) only [e_X4_canEnd_0, e_X4_canEnd_1, e_X4_canEnd_4, e_X4_canEnd_6, e_X4_canEnd_9, e_X4_canEnd_10, e_X4_canEnd_13, e_X4_canEnd_15, e_X4_canEnd_18, e_X4_canEnd_19, e_X4_canEnd_22, e_X4_canEnd_24, e_X4_canEnd_28, e_X4_canEnd_31, e_X4_canEnd_32, e_X4_canEnd_35, e_X4_canEnd_36, e_X4_canEnd_37, e_X4_canEnd_40, e_X4_canEnd_42, e_X4_canEnd_45, e_X4_canEnd_46, e_X4_canEnd_49, e_X4_canEnd_51, e_X4_canEnd_54, e_X4_canEnd_55, e_X4_canEnd_58, e_X4_canEnd_59, hw, q6, t6, hv, q11, q14, hv11, hv14, if_true, if_false]
      rw [stA, e_X4_canEnd_27]
      rw [b1] at k1
      have f18 : ∀ c, 17 ≤ c → c ≤ 22 → I2 c = I c := fun c h1 h2 => k2 c (by omega) (by omega)
      by_cases g3 : 0 < (syF true O W).length
      · rw [if_pos g3]
        rw [decide_eq_true g3, b1] at k1
        refine ⟨I2, ?_, fr, fun s3 hs => ?_⟩
        · simp (disch := first | exact rt_bo_0 | exact rt_bo_1 | exact ns_float | exact ns_int | exact ns_ref | assumption | omega | (simp (disch := omega) only [ob_17, rg_17_0 hR, rg_17_1 hR, rg_17_2 hR, ar_26, ln_26, ob_23, rg_23_0 hR, rg_23_1 hR, rt_in_nI, Option.isSome_some, Option.getD_some, Bool.or_true, Bool.true_or]; done) | fail) only [e_X4_canEnd_0, e_X4_canEnd_1, e_X4_canEnd_4, e_X4_canEnd_6, e_X4_canEnd_9, e_X4_canEnd_10, e_X4_canEnd_13, e_X4_canEnd_15, e_X4_canEnd_18, e_X4_canEnd_19, e_X4_canEnd_22, e_X4_canEnd_24, e_X4_canEnd_28, e_X4_canEnd_31, e_X4_canEnd_32, e_X4_canEnd_35, e_X4_canEnd_36, e_X4_canEnd_37, e_X4_canEnd_40, e_X4_canEnd_42, e_X4_canEnd_45, e_X4_canEnd_46, e_X4_canEnd_49, e_X4_canEnd_51, e_X4_canEnd_54, e_X4_canEnd_55, e_X4_canEnd_58, e_X4_canEnd_59, rg_17_1 hR, k1, Option.getD_some, Option.bind_some, Option.toList_some, Option.toList_none, List.cons_append, List.nil_append]
          rfl
        · rw [Option.some.injEq] at hs
          subst hs
          refine ⟨⟨⟨?_, ?_, ?_⟩, ⟨?_, ?_, fun k hk => ?_, fun i hi => ?_⟩, ⟨k3, k4, k5⟩⟩, ?_, ?_⟩
          · rw [f18 17 (by decide) (by decide)]; exact h1
          · rw [f18 17 (by decide) (by decide)]; exact h2
          · rw [f18 17 (by decide) (by decide)]; exact h3
          · rw [f18 18 (by decide) (by decide)]; exact h4
          · rw [f18 18 (by decide) (by decide)]; exact h5
          · rw [f18 19 (by decide) (by decide), f18 20 (by decide) (by decide), f18 21 (by decide) (by decide)]; exact h6 k hk
          · rw [f18 22 (by decide) (by decide)]; exact h7 i hi
          · rw [f18 17 (by decide) (by decide)]; exact hw
          · rw [f18 17 (by decide) (by decide)]; exact hv
      · rw [if_neg g3]
        rw [decide_eq_false g3, b0] at k1
        refine ⟨I2, ?_, fr, fun s3 hs => by cases hs⟩
        simp (disch := first | exact rt_bo_0 | exact rt_bo_1 | exact ns_float | exact ns_int | exact ns_ref | assumption | omega | (simp (disch := omega) only [ob_17, rg_17_0 hR, rg_17_1 hR, rg_17_2 hR, ar_26, ln_26, ob_23, rg_23_0 hR, rg_23_1 hR, rt_in_nI, Option.isSome_some, Option.getD_some, Bool.or_true, Bool.true_or]; done) | fail) only [e_X4_canEnd_0, e_X4_canEnd_1, e_X4_canEnd_4, e_X4_canEnd_6, e_X4_canEnd_9, e_X4_canEnd_10, e_X4_canEnd_13, e_X4_canEnd_15, e_X4_canEnd_18, e_X4_canEnd_19, e_X4_canEnd_22, e_X4_canEnd_24, e_X4_canEnd_28, e_X4_canEnd_31, e_X4_canEnd_32, e_X4_canEnd_35, e_X4_canEnd_36, e_X4_canEnd_37, e_X4_canEnd_40, e_X4_canEnd_42, e_X4_canEnd_45, e_X4_canEnd_46, e_X4_canEnd_49, e_X4_canEnd_51, e_X4_canEnd_54, e_X4_canEnd_55, e_X4_canEnd_58, e_X4_canEnd_59, rg_17_1 hR, k1, Option.getD_some, Option.bind_some, Option.toList_some, Option.toList_none, List.cons_append, List.nil_append]
        rfl
    · rw [if_neg (fun h => g2 h.2), if_pos (Or.inl rfl)]
      rw [eq_false (fun h => g2 (Or.inl h))] at hv11
      rw [eq_false (fun h => g2 (Or.inr h))] at hv14
      refine ⟨I, ?_, FrG_rf, fun s3 hs => ?_⟩
      · simp (disch := first | exact rt_bo_0 | exact rt_bo_1 | exact ns_float | exact ns_int | exact ns_ref | assumption | omega | (simp (disch := omega) only [ob_17, rg_17_0 hR, rg_17_1 hR, rg_17_2 hR, ar_26, ln_26, ob_23, rg_23_0 hR, rg_23_1 hR, rt_in_nI, Option.isSome_some, Option.getD_some, Bool.or_true, Bool.true_or]; done) | fail) only [e_X4_canEnd_0, e_X4_canEnd_1, e_X4_canEnd_4, e_X4_canEnd_6, e_X4_canEnd_9, e_X4_canEnd_10, e_X4_canEnd_13, e_X4_canEnd_15, e_X4_canEnd_18, e_X4_canEnd_19, e_X4_canEnd_22, e_X4_canEnd_24, e_X4_canEnd_27, e_X4_canEnd_28, e_X4_canEnd_31, e_X4_canEnd_32, e_X4_canEnd_35, e_X4_canEnd_36, e_X4_canEnd_37, e_X4_canEnd_40, e_X4_canEnd_42, e_X4_canEnd_45, e_X4_canEnd_46, e_X4_canEnd_49, e_X4_canEnd_51, e_X4_canEnd_54, e_X4_canEnd_55, e_X4_canEnd_58, e_X4_canEnd_59, hw, q6, t6, hv, q11, q14, hv11, hv14, if_true, if_false]
        rfl
      · rw [Option.some.injEq] at hs
        subst hs
        exact hX0
  · rw [if_neg (fun h => g1 h.1)]
    have n6 : (nI md = nI 6) = False := by rw [q_eq (by omega) (by omega)]; exact eq_false g1
    by_cases g2 : md = 7
    · have n7 : (nI md = nI 7) = True := eq_true (by rw [g2])
      rw [if_pos (Or.inr g2)]
      refine ⟨I, ?_, FrG_rf, fun s3 hs => ?_⟩
      · simp (disch := first | exact rt_bo_0 | exact rt_bo_1 | exact ns_float | exact ns_int | exact ns_ref | assumption | omega | (simp (disch := omega) only [ob_17, rg_17_0 hR, rg_17_1 hR, rg_17_2 hR, ar_26, ln_26, ob_23, rg_23_0 hR, rg_23_1 hR, rt_in_nI, Option.isSome_some, Option.getD_some, Bool.or_true, Bool.true_or]; done) | fail) only [e_X4_canEnd_0, e_X4_canEnd_1, e_X4_canEnd_4, e_X4_canEnd_6, e_X4_canEnd_9, e_X4_canEnd_10, e_X4_canEnd_13, e_X4_canEnd_15, e_X4_canEnd_18, e_X4_canEnd_19, e_X4_canEnd_22, e_X4_canEnd_24, e_X4_canEnd_27, e_X4_canEnd_28, e_X4_canEnd_31, e_X4_canEnd_32, e_X4_canEnd_35, e_X4_canEnd_36, e_X4_canEnd_37, e_X4_canEnd_40, e_X4_canEnd_42, e_X4_canEnd_45, e_X4_canEnd_46, e_X4_canEnd_49, e_X4_canEnd_51, e_X4_canEnd_54, e_X4_canEnd_55, e_X4_canEnd_58, e_X4_canEnd_59, hw, q6, q7, n6, n7, if_true, if_false]
        rfl
      · rw [Option.some.injEq] at hs
        subst hs
        exact hX0
    · have n7 : (nI md = nI 7) = False := by rw [q_eq (by omega) (by omega)]; exact eq_false g2
      rw [if_neg (by omega)]
      refine ⟨I, ?_, FrG_rf, fun s3 hs => by cases hs⟩
      simp (disch := first | exact rt_bo_0 | exact rt_bo_1 | exact ns_float | exact ns_int | exact ns_ref | assumption | omega | (simp (disch := omega) only [ob_17, rg_17_0 hR, rg_17_1 hR, rg_17_2 hR, ar_26, ln_26, ob_23, rg_23_0 hR, rg_23_1 hR, rt_in_nI, Option.isSome_some, Option.getD_some, Bool.or_true, Bool.true_or]; done) | fail) only [e_X4_canEnd_0, e_X4_canEnd_1, e_X4_canEnd_4, e_X4_canEnd_6, e_X4_canEnd_9, e_X4_canEnd_10, e_X4_canEnd_13, e_X4_canEnd_15, e_X4_canEnd_18, e_X4_canEnd_19, e_X4_canEnd_22, e_X4_canEnd_24, e_X4_canEnd_27, e_X4_canEnd_28, e_X4_canEnd_31, e_X4_canEnd_32, e_X4_canEnd_35, e_X4_canEnd_36, e_X4_canEnd_37, e_X4_canEnd_40, e_X4_canEnd_42, e_X4_canEnd_45, e_X4_canEnd_46, e_X4_canEnd_49, e_X4_canEnd_51, e_X4_canEnd_54, e_X4_canEnd_55, e_X4_canEnd_58, e_X4_canEnd_59, hw, q6, q7, n6, n7, if_true, if_false]
      rfl
theorem x_fault {w : Nat} {h : rt_H} : Ev mX4_faultAt 0 [.int (nI w), .int (nI p)] [] h = some (some (.int (flt w p)), h) := by
  simp (disch := first | exact rt_bo_0 | exact rt_bo_1 | exact ns_float | exact ns_int | exact ns_ref | assumption | omega | (simp (disch := omega) only [rt_in_0, rt_in_nI, Option.isSome_some, Option.getD_some, Bool.or_true, Bool.true_or]; done) | fail) only [e_X4_faultAt_0, e_X4_faultAt_3, e_X4_faultAt_4, e_X4_faultAt_5, e_X4_faultAt_6, e_X4_faultAt_7]
  rfl
theorem x_skip (hR : RG R a b) (hT : TX I N t) (hn : n ≤ N) (hen : en ≤ n) {v : Value} : ∀ f i, i + f = en → (∀ j, i ≤ j → j < en → ltr (t j) = true) → Ev mX4_hear 10 [.ref 17, .ref 7, .int (nI n), .ref 9, v, .int (nI i), u] [] (71 + e, I, L, R) = Ev mX4_hear 10 [.ref 17, .ref 7, .int (nI n), .ref 9, v, .int (nI en), u] [] (71 + e, I, L, R) := by
  have x1 := hT.1
  intro f
  induction f with
  | zero => intro i hi _; rw [show i = en by omega]
  | succ f ih =>
    intro i hi hl
    rw [← ih (i + 1) (by omega) (fun j h1 h2 => hl j (by omega) h2)]
    have c1 : ¬ n < i := by omega
    have c2 : ¬ n ≤ i := by omega
    have hL := x_isL (e := e) (L := L) hR hT (show i < N by omega)
    rw [hl i (Nat.le_refl _) (by omega), show b01 true = 1 from rfl] at hL
    rw [e_X4_hear_10]
    simp (disch := first | exact rt_bo_0 | exact rt_bo_1 | exact ns_float | exact ns_int | exact ns_ref | assumption | omega | (simp (disch := omega) only [ob_17, rg_17_0 hR, rg_17_1 hR, rg_17_2 hR, ar_26, ln_26, ob_7, rg_7_0 hR, ar_8, ln_8, rt_in_nI, Option.isSome_some, Option.getD_some, Bool.or_true, Bool.true_or]; done) | fail) only [e_X4_hear_0, e_X4_hear_1, e_X4_hear_4, e_X4_hear_5, e_X4_hear_7, e_X4_hear_8, e_X4_hear_12, e_X4_hear_13, e_X4_hear_16, e_X4_hear_18, e_X4_hear_19, e_X4_hear_22, e_X4_hear_23, e_X4_hear_25, e_X4_hear_28, e_X4_hear_31, e_X4_hear_36, e_X4_hear_37, e_X4_hear_40, e_X4_hear_41, e_X4_hear_43, e_X4_hear_45, e_X4_hear_48, e_X4_hear_51, e_X4_hear_52, e_X4_hear_54, e_X4_hear_57, e_X4_hear_59, e_X4_hear_60, e_X4_hear_62, e_X4_hear_64, e_X4_hear_65, e_X4_hear_66, e_X4_hear_69, e_X4_hear_71, e_X4_hear_73, e_X4_hear_76, e_X4_hear_78, e_X4_hear_80, e_X4_hear_83, e_X4_hear_84, e_X4_hear_86, e_X4_hear_87, e_X4_hear_88, e_X4_hear_89, e_X4_hear_92, e_X4_hear_93, e_X4_hear_95, e_X4_hear_98, e_X4_hear_99, e_X4_hear_101, e_X4_hear_102, e_X4_hear_103, e_X4_hear_105, e_X4_hear_108, e_X4_hear_112, e_X4_hear_115, e_X4_hear_118, e_X4_hear_119, e_X4_hear_120, e_X4_hear_123, e_X4_hear_124, e_X4_hear_125, e_X4_hear_126, e_X4_hear_129, e_X4_hear_130, e_X4_hear_133, e_X4_hear_136, q_lt, q_le, c1, c2, hL, q_10, q_s, if_false, Option.getD_some, Option.bind_some, Option.toList_some, Option.toList_none, List.cons_append, List.nil_append]
theorem x_hear_pre (hR : RG R a b) (hT : TX I N t) (hn : n ≤ N) (hp : p < n) : Ev mX4_hear 10 [.ref 17, .ref 7, .int (nI n), .ref 9, .int (nI p), .int (nI p), u] [] (71 + e, I, L, R) = if wok t n p = true then Ev mX4_hear 58 [.ref 17, .ref 7, .int (nI n), .ref 9, .int (nI p), .int (nI (lend t n p)), u] [] (71 + e, I, L, R) else some (some (.int (flt 5 (lend t n p))), (71 + e, I, L, R)) := by
  have x1 := hT.1
  have q5 : (5 : Int32) = nI 5 := rfl
  have q32 : (32 : Int32) = nI 32 := rfl
  obtain ⟨l1, l2, l3, l4⟩ := lend_all (t := t) (n := n) (p := p) (by omega)
  rw [x_skip hR hT hn l2 (lend t n p - p) p (by omega) l3]
  generalize he : lend t n p = en at *
  have c1 : ¬ n < en := by omega
  have hlt : ltr (t p) = true ↔ p < en := by
    constructor
    · intro h; rw [← he]; exact lend_yes hp h
    · intro h; exact l3 p (Nat.le_refl _) h
  by_cases h1 : en = n
  · have c2 : n ≤ en := by omega
    have hw : wok t n p = true := by unfold wok; rw [he, decide_eq_true h1, hlt.mpr (by omega)]; rfl
    rw [if_pos hw, e_X4_hear_10]
    simp (disch := first | exact rt_bo_0 | exact rt_bo_1 | exact ns_float | exact ns_int | exact ns_ref | assumption | omega | (simp (disch := omega) only [ob_17, rg_17_0 hR, rg_17_1 hR, rg_17_2 hR, ar_26, ln_26, ob_7, rg_7_0 hR, ar_8, ln_8, rt_in_nI, Option.isSome_some, Option.getD_some, Bool.or_true, Bool.true_or]; done) | fail) only [e_X4_hear_0, e_X4_hear_1, e_X4_hear_4, e_X4_hear_5, e_X4_hear_7, e_X4_hear_8, e_X4_hear_12, e_X4_hear_13, e_X4_hear_16, e_X4_hear_18, e_X4_hear_19, e_X4_hear_22, e_X4_hear_23, e_X4_hear_25, e_X4_hear_28, e_X4_hear_31, e_X4_hear_34, e_X4_hear_36, e_X4_hear_37, e_X4_hear_40, e_X4_hear_41, e_X4_hear_43, e_X4_hear_45, e_X4_hear_48, e_X4_hear_51, e_X4_hear_52, e_X4_hear_54, e_X4_hear_57, e_X4_hear_59, e_X4_hear_60, e_X4_hear_62, e_X4_hear_64, e_X4_hear_65, e_X4_hear_66, e_X4_hear_69, e_X4_hear_71, e_X4_hear_73, e_X4_hear_76, e_X4_hear_78, e_X4_hear_80, e_X4_hear_83, e_X4_hear_84, e_X4_hear_86, e_X4_hear_87, e_X4_hear_88, e_X4_hear_89, e_X4_hear_92, e_X4_hear_93, e_X4_hear_95, e_X4_hear_98, e_X4_hear_99, e_X4_hear_101, e_X4_hear_102, e_X4_hear_103, e_X4_hear_105, e_X4_hear_108, e_X4_hear_112, e_X4_hear_115, e_X4_hear_118, e_X4_hear_119, e_X4_hear_120, e_X4_hear_123, e_X4_hear_124, e_X4_hear_125, e_X4_hear_126, e_X4_hear_129, e_X4_hear_130, e_X4_hear_133, e_X4_hear_136, q_lt, q_le, c1, c2, if_true, if_false, Option.getD_some, Option.bind_some, Option.toList_some, Option.toList_none, List.cons_append, List.nil_append]
  · have c2 : ¬ n ≤ en := by omega
    have hL := x_isL (e := e) (L := L) hR hT (show en < N by omega)
    rw [l4 (by omega), show b01 false = 0 from rfl] at hL
    have hb := hT.2.2.2 en (by omega)
    by_cases h32 : t en = 32
    · have n32 : (nI (t en) = nI 32) = True := eq_true (by rw [h32])
      by_cases hpe : p < en
      · have c3 : ¬ en ≤ p := by omega
        have hw : wok t n p = true := by unfold wok; rw [he, decide_eq_true h32, Bool.or_true, hlt.mpr hpe]; rfl
        rw [if_pos hw, e_X4_hear_10]
        simp (disch := first | exact rt_bo_0 | exact rt_bo_1 | exact ns_float | exact ns_int | exact ns_ref | assumption | omega | (simp (disch := omega) only [ob_17, rg_17_0 hR, rg_17_1 hR, rg_17_2 hR, ar_26, ln_26, ob_7, rg_7_0 hR, ar_8, ln_8, rt_in_nI, Option.isSome_some, Option.getD_some, Bool.or_true, Bool.true_or]; done) | fail) only [e_X4_hear_0, e_X4_hear_1, e_X4_hear_4, e_X4_hear_5, e_X4_hear_7, e_X4_hear_8, e_X4_hear_12, e_X4_hear_13, e_X4_hear_16, e_X4_hear_18, e_X4_hear_19, e_X4_hear_22, e_X4_hear_23, e_X4_hear_25, e_X4_hear_28, e_X4_hear_31, e_X4_hear_34, e_X4_hear_36, e_X4_hear_37, e_X4_hear_40, e_X4_hear_41, e_X4_hear_43, e_X4_hear_45, e_X4_hear_48, e_X4_hear_51, e_X4_hear_52, e_X4_hear_54, e_X4_hear_57, e_X4_hear_59, e_X4_hear_60, e_X4_hear_62, e_X4_hear_64, e_X4_hear_65, e_X4_hear_66, e_X4_hear_69, e_X4_hear_71, e_X4_hear_73, e_X4_hear_76, e_X4_hear_78, e_X4_hear_80, e_X4_hear_83, e_X4_hear_84, e_X4_hear_86, e_X4_hear_87, e_X4_hear_88, e_X4_hear_89, e_X4_hear_92, e_X4_hear_93, e_X4_hear_95, e_X4_hear_98, e_X4_hear_99, e_X4_hear_101, e_X4_hear_102, e_X4_hear_103, e_X4_hear_105, e_X4_hear_108, e_X4_hear_112, e_X4_hear_115, e_X4_hear_118, e_X4_hear_119, e_X4_hear_120, e_X4_hear_123, e_X4_hear_124, e_X4_hear_125, e_X4_hear_126, e_X4_hear_129, e_X4_hear_130, e_X4_hear_133, e_X4_hear_136, e_X4_endsWord_0, e_X4_endsWord_1, e_X4_endsWord_2, e_X4_endsWord_5, e_X4_endsWord_7, e_X4_endsWord_10, e_X4_endsWord_11, e_X4_endsWord_12, e_X4_endsWord_15, e_X4_endsWord_16, e_X4_endsWord_19, e_X4_endsWord_20, x_byte hR hT.2.1 x1 (show en < N by omega), hT.2.2.1 en (by omega), q_lt, q_le, c1, c2, c3, hL, q32, n32, q_00, q_10, if_true, if_false, Option.getD_some, Option.bind_some, Option.toList_some, Option.toList_none, List.cons_append, List.nil_append]
      · have c3 : en ≤ p := by omega
        have hw : ¬ wok t n p = true := by
          unfold wok
          rw [Bool.and_eq_true]
          exact fun h => hpe (hlt.mp h.1)
        rw [if_neg hw, e_X4_hear_10]
        simp (disch := first | exact rt_bo_0 | exact rt_bo_1 | exact ns_float | exact ns_int | exact ns_ref | assumption | omega | (simp (disch := omega) only [ob_17, rg_17_0 hR, rg_17_1 hR, rg_17_2 hR, ar_26, ln_26, ob_7, rg_7_0 hR, ar_8, ln_8, rt_in_nI, Option.isSome_some, Option.getD_some, Bool.or_true, Bool.true_or]; done) | fail) only [e_X4_hear_0, e_X4_hear_1, e_X4_hear_4, e_X4_hear_5, e_X4_hear_7, e_X4_hear_8, e_X4_hear_12, e_X4_hear_13, e_X4_hear_16, e_X4_hear_18, e_X4_hear_19, e_X4_hear_22, e_X4_hear_23, e_X4_hear_25, e_X4_hear_28, e_X4_hear_31, e_X4_hear_34, e_X4_hear_36, e_X4_hear_37, e_X4_hear_40, e_X4_hear_41, e_X4_hear_43, e_X4_hear_45, e_X4_hear_48, e_X4_hear_51, e_X4_hear_52, e_X4_hear_54, e_X4_hear_57, e_X4_hear_59, e_X4_hear_60, e_X4_hear_62, e_X4_hear_64, e_X4_hear_65, e_X4_hear_66, e_X4_hear_69, e_X4_hear_71, e_X4_hear_73, e_X4_hear_76, e_X4_hear_78, e_X4_hear_80, e_X4_hear_83, e_X4_hear_84, e_X4_hear_86, e_X4_hear_87, e_X4_hear_88, e_X4_hear_89, e_X4_hear_92, e_X4_hear_93, e_X4_hear_95, e_X4_hear_98, e_X4_hear_99, e_X4_hear_101, e_X4_hear_102, e_X4_hear_103, e_X4_hear_105, e_X4_hear_108, e_X4_hear_112, e_X4_hear_115, e_X4_hear_118, e_X4_hear_119, e_X4_hear_120, e_X4_hear_123, e_X4_hear_124, e_X4_hear_125, e_X4_hear_126, e_X4_hear_129, e_X4_hear_130, e_X4_hear_133, e_X4_hear_136, e_X4_endsWord_0, e_X4_endsWord_1, e_X4_endsWord_2, e_X4_endsWord_5, e_X4_endsWord_7, e_X4_endsWord_10, e_X4_endsWord_11, e_X4_endsWord_12, e_X4_endsWord_15, e_X4_endsWord_16, e_X4_endsWord_19, e_X4_endsWord_20, x_byte hR hT.2.1 x1 (show en < N by omega), hT.2.2.1 en (by omega), q_lt, q_le, c1, c2, c3, hL, q32, n32, q_00, q5, x_fault, if_true, if_false, Option.getD_some, Option.bind_some, Option.toList_some, Option.toList_none, List.cons_append, List.nil_append]
    · have n32 : (nI (t en) = nI 32) = False := by rw [q_eq (by omega) (by omega)]; exact eq_false h32
      have hw : ¬ wok t n p = true := by
        unfold wok
        rw [he, decide_eq_false h32, decide_eq_false h1]
        simp
      rw [if_neg hw, e_X4_hear_10]
      simp (disch := first | exact rt_bo_0 | exact rt_bo_1 | exact ns_float | exact ns_int | exact ns_ref | assumption | omega | (simp (disch := omega) only [ob_17, rg_17_0 hR, rg_17_1 hR, rg_17_2 hR, ar_26, ln_26, ob_7, rg_7_0 hR, ar_8, ln_8, rt_in_nI, Option.isSome_some, Option.getD_some, Bool.or_true, Bool.true_or]; done) | fail) only [e_X4_hear_0, e_X4_hear_1, e_X4_hear_4, e_X4_hear_5, e_X4_hear_7, e_X4_hear_8, e_X4_hear_12, e_X4_hear_13, e_X4_hear_16, e_X4_hear_18, e_X4_hear_19, e_X4_hear_22, e_X4_hear_23, e_X4_hear_25, e_X4_hear_28, e_X4_hear_31, e_X4_hear_34, e_X4_hear_36, e_X4_hear_37, e_X4_hear_40, e_X4_hear_41, e_X4_hear_43, e_X4_hear_45, e_X4_hear_48, e_X4_hear_51, e_X4_hear_52, e_X4_hear_54, e_X4_hear_57, e_X4_hear_59, e_X4_hear_60, e_X4_hear_62, e_X4_hear_64, e_X4_hear_65, e_X4_hear_66, e_X4_hear_69, e_X4_hear_71, e_X4_hear_73, e_X4_hear_76, e_X4_hear_78, e_X4_hear_80, e_X4_hear_83, e_X4_hear_84, e_X4_hear_86, e_X4_hear_87, e_X4_hear_88, e_X4_hear_89, e_X4_hear_92, e_X4_hear_93, e_X4_hear_95, e_X4_hear_98, e_X4_hear_99, e_X4_hear_101, e_X4_hear_102, e_X4_hear_103, e_X4_hear_105, e_X4_hear_108, e_X4_hear_112, e_X4_hear_115, e_X4_hear_118, e_X4_hear_119, e_X4_hear_120, e_X4_hear_123, e_X4_hear_124, e_X4_hear_125, e_X4_hear_126, e_X4_hear_129, e_X4_hear_130, e_X4_hear_133, e_X4_hear_136, e_X4_endsWord_0, e_X4_endsWord_1, e_X4_endsWord_2, e_X4_endsWord_5, e_X4_endsWord_7, e_X4_endsWord_10, e_X4_endsWord_11, e_X4_endsWord_12, e_X4_endsWord_15, e_X4_endsWord_16, e_X4_endsWord_19, e_X4_endsWord_20, x_byte hR hT.2.1 x1 (show en < N by omega), hT.2.2.1 en (by omega), q_lt, q_le, c1, c2, hL, q32, n32, q_00, q5, x_fault, if_true, if_false, Option.getD_some, Option.bind_some, Option.toList_some, Option.toList_none, List.cons_append, List.nil_append]
theorem x_cont (hR : RG R a b) (ha : a = 24 ∨ a = 25) (hX : CX I a s) (hS : SW nw s) (hn : n ≤ 200) (hen : en ≤ n) (hen0 : 0 < en) (hIH : en + 1 < n → XR e L (Ev mX4_hear 10 [.ref 17, .ref 7, .int (nI n), .ref 9, .int (nI (en + 1)), .int (nI (en + 1)), .int 0] [] (71 + e, I, L, R)) I R a b (prs wl nw t n f (en + 1) s)) {v : Value} (hv : rt_ns v = true) : XR e L (Ev mX4_hear 84 [.ref 17, .ref 7, .int (nI n), .ref 9, v, .int (nI en), .int 0] [] (71 + e, I, L, R)) I R a b (pct wl nw t n f en s) := by
  have q5 : (5 : Int32) = nI 5 := rfl
  have q1 : (1 : Int32) = nI 1 := rfl
  have hp := q_p (show 0 < n by omega)
  unfold pct
  by_cases h1 : en + 1 = n
  · have n1 : (nI en = nI (n - 1)) = True := eq_true (by rw [← h1, Nat.add_sub_cancel])
    rw [if_pos h1]
    refine ⟨I, R, a, b, ?_, ⟨fun _ _ => rfl, rfl⟩, hR, fun _ _ => rfl, Or.inl ⟨rfl, rfl⟩, fun _ _ => CB_80 hX.1, fun s3 h => by cases h⟩
    rw [e_X4_hear_84]
    simp (disch := first | exact rt_bo_0 | exact rt_bo_1 | exact ns_float | exact ns_int | exact ns_ref | assumption | omega | (simp (disch := omega) only [ob_17, rg_17_0 hR, rg_17_1 hR, rg_17_2 hR, ar_26, ln_26, ob_7, rg_7_0 hR, ar_8, ln_8, rt_in_nI, Option.isSome_some, Option.getD_some, Bool.or_true, Bool.true_or]; done) | fail) only [e_X4_hear_0, e_X4_hear_1, e_X4_hear_4, e_X4_hear_5, e_X4_hear_7, e_X4_hear_8, e_X4_hear_12, e_X4_hear_13, e_X4_hear_16, e_X4_hear_18, e_X4_hear_19, e_X4_hear_22, e_X4_hear_23, e_X4_hear_25, e_X4_hear_28, e_X4_hear_31, e_X4_hear_34, e_X4_hear_36, e_X4_hear_37, e_X4_hear_40, e_X4_hear_41, e_X4_hear_43, e_X4_hear_45, e_X4_hear_48, e_X4_hear_51, e_X4_hear_52, e_X4_hear_54, e_X4_hear_57, e_X4_hear_58, e_X4_hear_59, e_X4_hear_60, e_X4_hear_62, e_X4_hear_64, e_X4_hear_65, e_X4_hear_66, e_X4_hear_69, e_X4_hear_71, e_X4_hear_73, e_X4_hear_76, e_X4_hear_78, e_X4_hear_80, e_X4_hear_83, e_X4_hear_86, e_X4_hear_87, e_X4_hear_88, e_X4_hear_89, e_X4_hear_92, e_X4_hear_93, e_X4_hear_95, e_X4_hear_98, e_X4_hear_99, e_X4_hear_101, e_X4_hear_102, e_X4_hear_103, e_X4_hear_105, e_X4_hear_108, e_X4_hear_112, e_X4_hear_115, e_X4_hear_118, e_X4_hear_119, e_X4_hear_120, e_X4_hear_123, e_X4_hear_124, e_X4_hear_125, e_X4_hear_126, e_X4_hear_129, e_X4_hear_130, e_X4_hear_133, e_X4_hear_136, hp, n1, q5, x_fault, if_true, Option.getD_some, Option.bind_some, Option.toList_some, Option.toList_none, List.cons_append, List.nil_append]
    rfl
  · have n1 : (nI en = nI (n - 1)) = False := by rw [q_eq (by omega) (by omega)]; exact eq_false (by omega)
    rw [if_neg h1]
    have stA : Ev mX4_hear 84 [.ref 17, .ref 7, .int (nI n), .ref 9, v, .int (nI en), .int 0] [] (71 + e, I, L, R) = Ev mX4_hear 10 [.ref 17, .ref 7, .int (nI n), .ref 9, .int (nI (en + 1)), .int (nI (en + 1)), .int 0] [] (71 + e, I, L, R) := by
      rw [e_X4_hear_84]
      simp (disch := first | exact rt_bo_0 | exact rt_bo_1 | exact ns_float | exact ns_int | exact ns_ref | assumption | omega | (simp (disch := omega) only [ob_17, rg_17_0 hR, rg_17_1 hR, rg_17_2 hR, ar_26, ln_26, ob_7, rg_7_0 hR, ar_8, ln_8, rt_in_nI, Option.isSome_some, Option.getD_some, Bool.or_true, Bool.true_or]; done) | fail) only [e_X4_hear_0, e_X4_hear_1, e_X4_hear_4, e_X4_hear_5, e_X4_hear_7, e_X4_hear_8, e_X4_hear_12, e_X4_hear_13, e_X4_hear_16, e_X4_hear_18, e_X4_hear_19, e_X4_hear_22, e_X4_hear_23, e_X4_hear_25, e_X4_hear_28, e_X4_hear_31, e_X4_hear_34, e_X4_hear_36, e_X4_hear_37, e_X4_hear_40, e_X4_hear_41, e_X4_hear_43, e_X4_hear_45, e_X4_hear_48, e_X4_hear_51, e_X4_hear_52, e_X4_hear_54, e_X4_hear_57, e_X4_hear_58, e_X4_hear_59, e_X4_hear_60, e_X4_hear_62, e_X4_hear_64, e_X4_hear_65, e_X4_hear_66, e_X4_hear_69, e_X4_hear_71, e_X4_hear_73, e_X4_hear_76, e_X4_hear_78, e_X4_hear_80, e_X4_hear_83, e_X4_hear_86, e_X4_hear_87, e_X4_hear_88, e_X4_hear_89, e_X4_hear_92, e_X4_hear_93, e_X4_hear_95, e_X4_hear_98, e_X4_hear_99, e_X4_hear_101, e_X4_hear_102, e_X4_hear_103, e_X4_hear_105, e_X4_hear_108, e_X4_hear_112, e_X4_hear_115, e_X4_hear_118, e_X4_hear_119, e_X4_hear_120, e_X4_hear_123, e_X4_hear_124, e_X4_hear_125, e_X4_hear_126, e_X4_hear_129, e_X4_hear_130, e_X4_hear_133, e_X4_hear_136, hp, n1, q_s, if_false, Option.getD_some, Option.bind_some, Option.toList_some, Option.toList_none, List.cons_append, List.nil_append]
    rw [stA]
    by_cases h2 : en = n
    · rw [if_pos h2]
      have c1 : n < en + 1 := by omega
      obtain ⟨I2, k1, k2, k3⟩ := x_canEnd (e := e) (L := L) hR ha hX hS
      have stB : Ev mX4_hear 10 [.ref 17, .ref 7, .int (nI n), .ref 9, .int (nI (en + 1)), .int (nI (en + 1)), .int 0] [] (71 + e, I, L, R) = Ev mX4_hear 111 [.ref 17, .ref 7, .int (nI n), .ref 9, .int (nI (en + 1)), .int (nI (en + 1)), .int 0] [] (71 + e, I, L, R) := by
        rw [e_X4_hear_10]
        simp (disch := first | exact rt_bo_0 | exact rt_bo_1 | exact ns_float | exact ns_int | exact ns_ref | assumption | omega | (simp (disch := omega) only [ob_17, rg_17_0 hR, rg_17_1 hR, rg_17_2 hR, ar_26, ln_26, ob_7, rg_7_0 hR, ar_8, ln_8, rt_in_nI, Option.isSome_some, Option.getD_some, Bool.or_true, Bool.true_or]; done) | fail) only [e_X4_hear_12, e_X4_hear_13, q_lt, c1, if_true]
      rw [stB]
      have h82 : I2 17 8 = 0 := by rw [k2.2.2]; exact CB_80 hX.1
      unfold sFin
      cases hs : sEnd s with
      | none =>
        rw [hs, Option.isSome_none, show b01 false = 0 from rfl] at k1
        refine ⟨I2, R, a, b, ?_, ⟨k2.1, k2.2.1⟩, hR, fun _ _ => rfl, Or.inl ⟨rfl, rfl⟩, fun _ _ => h82, fun s3 h => by cases h⟩
        rw [e_X4_hear_111]
        have xf := x_fault (p := n) (w := 1) (h := (71 + e, I2, L, R))
        rw [← q1] at xf
        simp (disch := first | exact rt_bo_0 | exact rt_bo_1 | exact ns_float | exact ns_int | exact ns_ref | assumption | omega | (simp (disch := omega) only [ob_17, rg_17_0 hR, rg_17_1 hR, rg_17_2 hR, ar_26, ln_26, ob_7, rg_7_0 hR, ar_8, ln_8, rt_in_nI, Option.isSome_some, Option.getD_some, Bool.or_true, Bool.true_or]; done) | fail) only [e_X4_hear_0, e_X4_hear_1, e_X4_hear_4, e_X4_hear_5, e_X4_hear_7, e_X4_hear_8, e_X4_hear_12, e_X4_hear_13, e_X4_hear_16, e_X4_hear_18, e_X4_hear_19, e_X4_hear_22, e_X4_hear_23, e_X4_hear_25, e_X4_hear_28, e_X4_hear_31, e_X4_hear_34, e_X4_hear_36, e_X4_hear_37, e_X4_hear_40, e_X4_hear_41, e_X4_hear_43, e_X4_hear_45, e_X4_hear_48, e_X4_hear_51, e_X4_hear_52, e_X4_hear_54, e_X4_hear_57, e_X4_hear_58, e_X4_hear_59, e_X4_hear_60, e_X4_hear_62, e_X4_hear_64, e_X4_hear_65, e_X4_hear_66, e_X4_hear_69, e_X4_hear_71, e_X4_hear_73, e_X4_hear_76, e_X4_hear_78, e_X4_hear_80, e_X4_hear_83, e_X4_hear_86, e_X4_hear_87, e_X4_hear_88, e_X4_hear_89, e_X4_hear_92, e_X4_hear_93, e_X4_hear_95, e_X4_hear_98, e_X4_hear_99, e_X4_hear_101, e_X4_hear_102, e_X4_hear_103, e_X4_hear_105, e_X4_hear_108, e_X4_hear_112, e_X4_hear_115, e_X4_hear_118, e_X4_hear_119, e_X4_hear_120, e_X4_hear_123, e_X4_hear_124, e_X4_hear_125, e_X4_hear_126, e_X4_hear_129, e_X4_hear_130, e_X4_hear_133, e_X4_hear_136, k1, q_00, xf, if_true, Option.getD_some, Option.bind_some, Option.toList_some, Option.toList_none, List.cons_append, List.nil_append]
        rfl
      | some s3 =>
        rw [hs, Option.isSome_some, show b01 true = 1 from rfl] at k1
        have hX3 := k3 s3 hs
        have hl := CB_W hX3.1
        refine ⟨rt_up I2 17 8 1, R, a, b, ?_, ⟨fun c hc => by rw [rt_up_f (by omega)]; exact k2.1 c hc, by rw [rt_up_n2 (by decide)]; exact k2.2.1⟩, hR, fun _ _ => rfl, Or.inl ⟨rfl, rfl⟩, fun v h => (by cases h), fun s4 h => ⟨I2, rfl, by cases h; exact hX3⟩⟩
        rw [e_X4_hear_111]
        simp (disch := first | exact rt_bo_0 | exact rt_bo_1 | exact ns_float | exact ns_int | exact ns_ref | assumption | omega | (simp (disch := omega) only [ob_17, rg_17_0 hR, rg_17_1 hR, rg_17_2 hR, ar_26, ln_26, ob_23, rg_23_0 hR, rg_23_1 hR, rt_in_nI, Option.isSome_some, Option.getD_some, Bool.or_true, Bool.true_or]; done) | fail) only [e_X4_hear_0, e_X4_hear_1, e_X4_hear_4, e_X4_hear_5, e_X4_hear_7, e_X4_hear_8, e_X4_hear_12, e_X4_hear_13, e_X4_hear_16, e_X4_hear_18, e_X4_hear_19, e_X4_hear_22, e_X4_hear_23, e_X4_hear_25, e_X4_hear_28, e_X4_hear_31, e_X4_hear_34, e_X4_hear_36, e_X4_hear_37, e_X4_hear_40, e_X4_hear_41, e_X4_hear_43, e_X4_hear_45, e_X4_hear_48, e_X4_hear_51, e_X4_hear_52, e_X4_hear_54, e_X4_hear_57, e_X4_hear_58, e_X4_hear_59, e_X4_hear_60, e_X4_hear_62, e_X4_hear_64, e_X4_hear_65, e_X4_hear_66, e_X4_hear_69, e_X4_hear_71, e_X4_hear_73, e_X4_hear_76, e_X4_hear_78, e_X4_hear_80, e_X4_hear_83, e_X4_hear_86, e_X4_hear_87, e_X4_hear_88, e_X4_hear_89, e_X4_hear_92, e_X4_hear_93, e_X4_hear_95, e_X4_hear_98, e_X4_hear_99, e_X4_hear_101, e_X4_hear_102, e_X4_hear_103, e_X4_hear_105, e_X4_hear_108, e_X4_hear_112, e_X4_hear_115, e_X4_hear_118, e_X4_hear_119, e_X4_hear_120, e_X4_hear_123, e_X4_hear_124, e_X4_hear_125, e_X4_hear_126, e_X4_hear_129, e_X4_hear_130, e_X4_hear_133, e_X4_hear_136, e_X2_size_0, e_X2_size_1, e_X2_size_4, rg_17_1 hR, k1, q_10, rt_up_n1, hl, if_false, Option.getD_some, Option.bind_some, Option.toList_some, Option.toList_none, List.cons_append, List.nil_append]
        rfl
    · rw [if_neg h2]
      exact hIH (by omega)
theorem x_hear_l (hn : n ≤ N) (hN : N ≤ 200) : ∀ f p s I R a b u, n - p ≤ f → p < n → 0 < p → RG R a b → (a = 24 ∨ a = 25) → (b = 24 ∨ b = 25) → a ≠ b → CX I a s → SW nw s → TX I N t → WX I nw wl → rt_ns u = true → XR e L (Ev mX4_hear 10 [.ref 17, .ref 7, .int (nI n), .ref 9, .int (nI p), .int (nI p), u] [] (71 + e, I, L, R)) I R a b (prs wl nw t n f p s) := by
  intro f
  induction f with
  | zero => intro p s I R a b u h1 h2; omega
  | succ f ih =>
    intro p s I R a b u h1 h2 h3 hR ha hb hab hX hS hT hW hu
    obtain ⟨l1, l2, l3, l4⟩ := lend_all (t := t) (n := n) (p := p) (by omega)
    rw [x_hear_pre hR hT hn h2, prs_s]
    by_cases hw : wok t n p = true
    · rw [if_pos hw, if_pos hw]
      have hlp : p < lend t n p := by
        unfold wok at hw
        rw [Bool.and_eq_true] at hw
        exact lend_yes h2 hw.1
      generalize he : lend t n p = en at *
      obtain ⟨I2, R2, a2, b2, k1, k2, k3⟩ := x_hw (e := e) (L := L) (n := n) hR ha hb hab hX hS hT hW h3 (show p ≤ en by omega) (by omega)
      have hR2 := k2.2.1
      have hfr : ∀ c, c < 17 → I2 c = I c := fun c hc => k2.1.1 c (by omega)
      cases hs : sWord (fnd wl nw (txt t p en)) s with
      | inl w =>
        rw [hs] at k1
        have hw0 : (nI w = 0) = False := by
          have : w = 2 ∨ w = 4 ∨ w = 1 := by
            unfold sWord at hs
            split at hs
            · cases hs; omega
            · split at hs
              · cases hs; omega
              · split at hs
                · cases hs; omega
                · cases hs
          exact eq_false (nI_ne0 (by omega) (by omega))
        refine XR_tr k2 ⟨I2, R2, a2, b2, ?_, ⟨fun _ _ => rfl, rfl⟩, hR2, fun _ _ => rfl, Or.inl ⟨rfl, rfl⟩, fun _ _ => ?_, fun s3 h => by cases h⟩
        · rw [e_X4_hear_58]
          simp (disch := first | exact rt_bo_0 | exact rt_bo_1 | exact ns_float | exact ns_int | exact ns_ref | assumption | omega | (simp (disch := omega) only [ob_17, rg_17_0 hR, rg_17_1 hR, rg_17_2 hR, ar_26, ln_26, ob_7, rg_7_0 hR, ar_8, ln_8, ob_9, rg_9_0 hR, ar_10, ln_10, rg_9_1 hR, ar_11, ln_11, rg_9_2 hR, ar_12, ln_12, rg_9_3 hR, ar_13, ln_13, rg_9_4 hR, ar_14, ln_14, rt_in_nI, Option.isSome_some, Option.getD_some, Bool.or_true, Bool.true_or]; done) | fail) only [e_X4_hear_0, e_X4_hear_1, e_X4_hear_4, e_X4_hear_5, e_X4_hear_7, e_X4_hear_8, e_X4_hear_12, e_X4_hear_13, e_X4_hear_16, e_X4_hear_18, e_X4_hear_19, e_X4_hear_22, e_X4_hear_23, e_X4_hear_25, e_X4_hear_28, e_X4_hear_31, e_X4_hear_34, e_X4_hear_36, e_X4_hear_37, e_X4_hear_40, e_X4_hear_41, e_X4_hear_43, e_X4_hear_45, e_X4_hear_48, e_X4_hear_51, e_X4_hear_52, e_X4_hear_54, e_X4_hear_57, e_X4_hear_59, e_X4_hear_60, e_X4_hear_62, e_X4_hear_64, e_X4_hear_65, e_X4_hear_66, e_X4_hear_69, e_X4_hear_71, e_X4_hear_73, e_X4_hear_76, e_X4_hear_78, e_X4_hear_80, e_X4_hear_83, e_X4_hear_86, e_X4_hear_87, e_X4_hear_88, e_X4_hear_89, e_X4_hear_92, e_X4_hear_93, e_X4_hear_95, e_X4_hear_98, e_X4_hear_99, e_X4_hear_101, e_X4_hear_102, e_X4_hear_103, e_X4_hear_105, e_X4_hear_108, e_X4_hear_112, e_X4_hear_115, e_X4_hear_118, e_X4_hear_119, e_X4_hear_120, e_X4_hear_123, e_X4_hear_124, e_X4_hear_125, e_X4_hear_126, e_X4_hear_129, e_X4_hear_130, e_X4_hear_133, e_X4_hear_136, k1, fN, hw0, x_fault, if_false, Option.getD_some, Option.bind_some, Option.toList_some, Option.toList_none, List.cons_append, List.nil_append]
          rfl
        · rw [k2.1.2.2]; exact CB_80 hX.1
      | inr s2 =>
        rw [hs] at k1
        have hX2 := k3 s2 hs
        have hS2 : SW nw s2 := by
          unfold sWord at hs
          split at hs
          · cases hs
          · rename_i c hc
            split at hs
            · cases hs
            · rename_i g4
              split at hs
              · cases hs
              · rename_i s4 hs4
                cases hs
                exact SW_step hS (fnd_lt hc) (fun h1 h2 => by
                  by_cases h6 : 6 ≤ s.2.1.1.2
                  · exact absurd ⟨⟨h1, h2⟩, h6⟩ g4
                  · omega) hs4
        have ha2 : a2 = 24 ∨ a2 = 25 := by have := k2.2.2.2; omega
        have hb2 : b2 = 24 ∨ b2 = 25 := by have := k2.2.2.2; omega
        have hab2 : a2 ≠ b2 := by have := k2.2.2.2; omega
        have hc := x_cont (e := e) (L := L) (f := f) (wl := wl) (t := t) (v := .int (nI p)) hR2 ha2 hX2 hS2 (show n ≤ 200 by omega) l2 (by omega) (fun g => ih (en + 1) s2 I2 R2 a2 b2 (.int 0) (by omega) (by omega) (by omega) hR2 ha2 hb2 hab2 hX2 hS2 (TX_fr hT hfr) (WX_fr hW hfr) ns_int) ns_int
        have stA : Ev mX4_hear 58 [.ref 17, .ref 7, .int (nI n), .ref 9, .int (nI p), .int (nI en), u] [] (71 + e, I, L, R) = Ev mX4_hear 84 [.ref 17, .ref 7, .int (nI n), .ref 9, .int (nI p), .int (nI en), .int 0] [] (71 + e, I2, L, R2) := by
          rw [e_X4_hear_58]
          simp (disch := first | exact rt_bo_0 | exact rt_bo_1 | exact ns_float | exact ns_int | exact ns_ref | assumption | omega | (simp (disch := omega) only [ob_17, rg_17_0 hR, rg_17_1 hR, rg_17_2 hR, ar_26, ln_26, ob_7, rg_7_0 hR, ar_8, ln_8, ob_9, rg_9_0 hR, ar_10, ln_10, rg_9_1 hR, ar_11, ln_11, rg_9_2 hR, ar_12, ln_12, rg_9_3 hR, ar_13, ln_13, rg_9_4 hR, ar_14, ln_14, rt_in_nI, Option.isSome_some, Option.getD_some, Bool.or_true, Bool.true_or]; done) | fail) only [e_X4_hear_0, e_X4_hear_1, e_X4_hear_4, e_X4_hear_5, e_X4_hear_7, e_X4_hear_8, e_X4_hear_12, e_X4_hear_13, e_X4_hear_16, e_X4_hear_18, e_X4_hear_19, e_X4_hear_22, e_X4_hear_23, e_X4_hear_25, e_X4_hear_28, e_X4_hear_31, e_X4_hear_34, e_X4_hear_36, e_X4_hear_37, e_X4_hear_40, e_X4_hear_41, e_X4_hear_43, e_X4_hear_45, e_X4_hear_48, e_X4_hear_51, e_X4_hear_52, e_X4_hear_54, e_X4_hear_57, e_X4_hear_59, e_X4_hear_60, e_X4_hear_62, e_X4_hear_64, e_X4_hear_65, e_X4_hear_66, e_X4_hear_69, e_X4_hear_71, e_X4_hear_73, e_X4_hear_76, e_X4_hear_78, e_X4_hear_80, e_X4_hear_83, e_X4_hear_86, e_X4_hear_87, e_X4_hear_88, e_X4_hear_89, e_X4_hear_92, e_X4_hear_93, e_X4_hear_95, e_X4_hear_98, e_X4_hear_99, e_X4_hear_101, e_X4_hear_102, e_X4_hear_103, e_X4_hear_105, e_X4_hear_108, e_X4_hear_112, e_X4_hear_115, e_X4_hear_118, e_X4_hear_119, e_X4_hear_120, e_X4_hear_123, e_X4_hear_124, e_X4_hear_125, e_X4_hear_126, e_X4_hear_129, e_X4_hear_130, e_X4_hear_133, e_X4_hear_136, k1, fN, nI_0, q_00, if_true, Option.getD_some, Option.bind_some, Option.toList_some, Option.toList_none, List.cons_append, List.nil_append]
        rw [stA]
        exact XR_tr k2 hc
    · rw [if_neg hw, if_neg hw]
      exact ⟨I, R, a, b, rfl, ⟨fun _ _ => rfl, rfl⟩, hR, fun _ _ => rfl, Or.inl ⟨rfl, rfl⟩, fun _ _ => CB_80 hX.1, fun s3 h => by cases h⟩
end P68

/-- what a word further on does: a fault, or goes on -/
def sWord (w : Option Nat) (s : PsT) : Nat ⊕ PsT := match w with
  | none => .inl 2
  | some c => if (25 ≤ c ∧ c ≤ 27) ∧ 6 ≤ s.2.1.1.2 then .inl 4 else match sStep c s with
    | none => .inl 1
    | some s2 => .inr s2
/-- what the first word does -/
def sWord1 (w : Option Nat) (isW : Bool) (len : Nat) : Nat ⊕ PsT := match w with
  | none => if isW = true ∧ 2 ≤ len ∧ len ≤ 10 then .inr (sInit 2 6) else .inl 2
  | some c => if isW = true then .inl 3 else match sFirst c with
    | none => .inl 1
    | some s => .inr s
def fN : Nat ⊕ PsT → Nat
  | .inl f => f
  | .inr _ => 0
section P67
variable {e : Nat} {I I2 : Nat → Nat → Int32} {L : Nat → Nat → Int64} {R : Nat → Nat → Option Nat} {a b O P k i c n N p en j nw md fm kd md2 : Nat} {K Rl d t : Nat → Nat} {Lk : Nat → Nat → Bool} {Nn : Nat → Option Nat} {W : List (Nat → Nat)} {dn has pl : Bool} {s s2 : PsT} {x : Int32} {w : Option Nat} {wl : Nat → List Nat} {u : Value}
/-- how the class's side goes on -/
def XG (I I2 : Nat → Nat → Int32) (R R2 : Nat → Nat → Option Nat) (a b a2 b2 : Nat) : Prop := FrG I I2 ∧ RG R2 a2 b2 ∧ (∀ c, c ≠ 23 → R2 c = R c) ∧ ((a2 = a ∧ b2 = b) ∨ (a2 = b ∧ b2 = a))
theorem XG_rf (hR : RG R a b) (h : FrG I I2) : XG I I2 R R a b a b := ⟨h, hR, fun _ _ => rfl, Or.inl ⟨rfl, rfl⟩⟩
theorem x_goOn (hR : RG R a b) (ha : a = 24 ∨ a = 25) (hb : b = 24 ∨ b = 25) (hab : a ≠ b) (hX : CX I a s) (hS : SW nw s) (hO : 25 ≤ c → c ≤ 27 → s.2.1.1.2 ≤ 5) (hc : c < 40) (hnw : nw ≤ 8) : ∃ I2 R2 a2 b2, Ev mX4_goOn 0 [.ref 17, .int (nI c)] [] (71 + e, I, L, R) = some (some (.int (b01 (sStep c s).isSome)), (71 + e, I2, L, R2)) ∧ XG I I2 R R2 a b a2 b2 ∧ ∀ s2, sStep c s = some s2 → CX I2 a2 s2 := by
  obtain ⟨⟨md, fm, dn⟩, ⟨⟨P, O⟩, K, Lk, Nn, Rl⟩, W⟩ := s
  obtain ⟨⟨a1, a2, a3, a4⟩, hP7, hl⟩ := SW_a hS
  have hX0 := hX
  obtain ⟨hB, hw, hv⟩ := hX
  dsimp only at hO
  change I 17 5 = nI md at hw
  change I 17 4 = vbS md fm at hv
  have q19 : (19 : Int32) = nI 19 := rfl
  have q17 : (17 : Int32) = nI 17 := rfl
  have q20 : (20 : Int32) = nI 20 := rfl
  have q4 : (4 : Int32) = nI 4 := rfl
  have q5 : (5 : Int32) = nI 5 := rfl
  have b1 : b01 true = 1 := rfl
  have b0 : b01 false = 0 := rfl
  unfold sStep
  dsimp only
  have st0 : Ev mX4_goOn 0 [.ref 17, .int (nI c)] [] (71 + e, I, L, R) = Ev mX4_goOn 4 [.ref 17, .int (nI c)] [.int (nI md)] (71 + e, I, L, R) := by
    simp (disch := first | exact rt_bo_0 | exact rt_bo_1 | exact ns_float | exact ns_int | exact ns_ref | assumption | omega | (simp (disch := omega) only [ob_17, rg_17_0 hR, rg_17_1 hR, rg_17_2 hR, ar_26, ln_26, rt_in_nI, Option.isSome_some, Option.getD_some, Bool.or_true, Bool.true_or]; done) | fail) only [e_X4_goOn_0, e_X4_goOn_1, hw]
  rw [st0, e_X4_goOn_4]
  have hmd : md = 1 ∨ md = 2 ∨ md = 3 ∨ md = 4 ∨ md = 5 ∨ md = 6 ∨ md = 7 := by omega
  rcases hmd with rfl | rfl | rfl | rfl | rfl | rfl | rfl
  · obtain ⟨rfl, rfl, rfl⟩ := SW_1 hS rfl
    rw [if_neg (by decide), if_pos (by decide)]
    simp only [if_true]
    by_cases g : c = 19
    · have n19 : (nI c = nI 19) = True := eq_true (by rw [g])
      obtain ⟨I2, k1, k2, k3⟩ := x_beginBare (e := e) (L := L) (v := 19) (w := 4) hR ha hB rfl (by decide) (Or.inl rfl)
      refine ⟨I2, R, a, b, ?_, XG_rf hR k2, fun s2 hs => ?_⟩
      · rw [if_pos g]
        simp (disch := first | exact rt_bo_0 | exact rt_bo_1 | exact ns_float | exact ns_int | exact ns_ref | assumption | omega | (simp (disch := omega) only [ob_17, rg_17_0 hR, rg_17_1 hR, rg_17_2 hR, ar_26, ln_26, rt_in_nI, Option.isSome_some, Option.getD_some, Bool.or_true, Bool.true_or]; done) | fail) only [e_X4_goOn_1, e_X4_goOn_48, e_X4_goOn_49, e_X4_goOn_50, e_X4_goOn_53, e_X4_goOn_54, e_X4_goOn_55, e_X4_goOn_57, e_X4_goOn_60, e_X4_goOn_61, e_X4_goOn_63, e_X4_goOn_64, e_X4_goOn_67, e_X4_goOn_70, e_X4_goOn_71, e_X4_goOn_74, e_X4_goOn_75, e_X4_goOn_76, e_X4_goOn_77, e_X4_goOn_79, e_X4_goOn_82, e_X4_goOn_83, e_X4_goOn_85, e_X4_goOn_86, e_X4_goOn_89, e_X4_goOn_92, e_X4_goOn_93, e_X4_goOn_96, e_X4_goOn_97, e_X4_goOn_98, e_X4_goOn_99, e_X4_goOn_100, e_X4_goOn_103, e_X4_goOn_104, e_X4_goOn_105, e_X4_goOn_106, e_X4_goOn_108, e_X4_goOn_111, e_X4_goOn_112, e_X4_goOn_115, e_X4_goOn_116, e_X4_goOn_119, e_X4_goOn_120, e_X4_goOn_121, e_X4_goOn_124, e_X4_goOn_125, e_X4_goOn_128, e_X4_goOn_131, e_X4_goOn_132, e_X4_goOn_133, e_X4_goOn_136, e_X4_goOn_139, e_X4_goOn_140, e_X4_goOn_143, e_X4_goOn_144, e_X4_goOn_145, e_X4_goOn_146, e_X4_goOn_147, e_X4_goOn_150, e_X4_goOn_151, e_X4_goOn_152, e_X4_goOn_153, e_X4_goOn_156, e_X4_goOn_157, e_X4_goOn_158, q19, q4, n19, k1, q_10, if_true, if_false, Option.getD_some, Option.bind_some, Option.toList_some, Option.toList_none, List.cons_append, List.nil_append]
        rfl
      · rw [if_pos g, Option.some.injEq] at hs
        subst hs
        exact k3
    · have n19 : (nI c = nI 19) = False := by rw [q_eq (by omega) (by omega)]; exact eq_false g
      refine ⟨I, R, a, b, ?_, XG_rf hR FrG_rf, fun s2 hs => ?_⟩
      · rw [if_neg g]
        simp (disch := first | exact rt_bo_0 | exact rt_bo_1 | exact ns_float | exact ns_int | exact ns_ref | assumption | omega | (simp (disch := omega) only [ob_17, rg_17_0 hR, rg_17_1 hR, rg_17_2 hR, ar_26, ln_26, rt_in_nI, Option.isSome_some, Option.getD_some, Bool.or_true, Bool.true_or]; done) | fail) only [e_X4_goOn_1, e_X4_goOn_48, e_X4_goOn_49, e_X4_goOn_50, e_X4_goOn_53, e_X4_goOn_54, e_X4_goOn_55, e_X4_goOn_57, e_X4_goOn_60, e_X4_goOn_61, e_X4_goOn_63, e_X4_goOn_64, e_X4_goOn_67, e_X4_goOn_70, e_X4_goOn_71, e_X4_goOn_74, e_X4_goOn_75, e_X4_goOn_76, e_X4_goOn_77, e_X4_goOn_79, e_X4_goOn_82, e_X4_goOn_83, e_X4_goOn_85, e_X4_goOn_86, e_X4_goOn_89, e_X4_goOn_92, e_X4_goOn_93, e_X4_goOn_96, e_X4_goOn_97, e_X4_goOn_98, e_X4_goOn_99, e_X4_goOn_100, e_X4_goOn_103, e_X4_goOn_104, e_X4_goOn_105, e_X4_goOn_106, e_X4_goOn_108, e_X4_goOn_111, e_X4_goOn_112, e_X4_goOn_115, e_X4_goOn_116, e_X4_goOn_119, e_X4_goOn_120, e_X4_goOn_121, e_X4_goOn_124, e_X4_goOn_125, e_X4_goOn_128, e_X4_goOn_131, e_X4_goOn_132, e_X4_goOn_133, e_X4_goOn_136, e_X4_goOn_139, e_X4_goOn_140, e_X4_goOn_143, e_X4_goOn_144, e_X4_goOn_145, e_X4_goOn_146, e_X4_goOn_147, e_X4_goOn_150, e_X4_goOn_151, e_X4_goOn_152, e_X4_goOn_153, e_X4_goOn_156, e_X4_goOn_157, e_X4_goOn_158, q19, n19, if_true, if_false, Option.getD_some, Option.bind_some, Option.toList_some, Option.toList_none, List.cons_append, List.nil_append]
        rfl
      · rw [if_neg g] at hs; cases hs
  · obtain ⟨rfl, rfl, rfl⟩ := SW_2 hS rfl
    rw [if_neg (by decide), if_neg (by decide), if_pos (by decide)]
    rw [if_neg (show ¬ (2 : Nat) = 1 by decide), if_pos rfl]
    by_cases g : c = 17
    · have n17 : (nI c = nI 17) = True := eq_true (by rw [g])
      obtain ⟨I2, k1, k2, k3⟩ := x_beginBare (e := e) (L := L) (v := 17) (w := 5) hR ha hB rfl (by decide) (Or.inr rfl)
      refine ⟨I2, R, a, b, ?_, XG_rf hR k2, fun s2 hs => ?_⟩
      · rw [if_pos g]
        simp (disch := first | exact rt_bo_0 | exact rt_bo_1 | exact ns_float | exact ns_int | exact ns_ref | assumption | omega | (simp (disch := omega) only [ob_17, rg_17_0 hR, rg_17_1 hR, rg_17_2 hR, ar_26, ln_26, rt_in_nI, Option.isSome_some, Option.getD_some, Bool.or_true, Bool.true_or]; done) | fail) only [e_X4_goOn_1, e_X4_goOn_48, e_X4_goOn_49, e_X4_goOn_50, e_X4_goOn_53, e_X4_goOn_54, e_X4_goOn_55, e_X4_goOn_57, e_X4_goOn_60, e_X4_goOn_61, e_X4_goOn_63, e_X4_goOn_64, e_X4_goOn_67, e_X4_goOn_70, e_X4_goOn_71, e_X4_goOn_74, e_X4_goOn_75, e_X4_goOn_76, e_X4_goOn_77, e_X4_goOn_79, e_X4_goOn_82, e_X4_goOn_83, e_X4_goOn_85, e_X4_goOn_86, e_X4_goOn_89, e_X4_goOn_92, e_X4_goOn_93, e_X4_goOn_96, e_X4_goOn_97, e_X4_goOn_98, e_X4_goOn_99, e_X4_goOn_100, e_X4_goOn_103, e_X4_goOn_104, e_X4_goOn_105, e_X4_goOn_106, e_X4_goOn_108, e_X4_goOn_111, e_X4_goOn_112, e_X4_goOn_115, e_X4_goOn_116, e_X4_goOn_119, e_X4_goOn_120, e_X4_goOn_121, e_X4_goOn_124, e_X4_goOn_125, e_X4_goOn_128, e_X4_goOn_131, e_X4_goOn_132, e_X4_goOn_133, e_X4_goOn_136, e_X4_goOn_139, e_X4_goOn_140, e_X4_goOn_143, e_X4_goOn_144, e_X4_goOn_145, e_X4_goOn_146, e_X4_goOn_147, e_X4_goOn_150, e_X4_goOn_151, e_X4_goOn_152, e_X4_goOn_153, e_X4_goOn_156, e_X4_goOn_157, e_X4_goOn_158, q17, q5, n17, k1, q_10, if_true, if_false, Option.getD_some, Option.bind_some, Option.toList_some, Option.toList_none, List.cons_append, List.nil_append]
        rfl
      · rw [if_pos g, Option.some.injEq] at hs
        subst hs
        exact k3
    · have n17 : (nI c = nI 17) = False := by rw [q_eq (by omega) (by omega)]; exact eq_false g
      refine ⟨I, R, a, b, ?_, XG_rf hR FrG_rf, fun s2 hs => ?_⟩
      · rw [if_neg g]
        simp (disch := first | exact rt_bo_0 | exact rt_bo_1 | exact ns_float | exact ns_int | exact ns_ref | assumption | omega | (simp (disch := omega) only [ob_17, rg_17_0 hR, rg_17_1 hR, rg_17_2 hR, ar_26, ln_26, rt_in_nI, Option.isSome_some, Option.getD_some, Bool.or_true, Bool.true_or]; done) | fail) only [e_X4_goOn_1, e_X4_goOn_48, e_X4_goOn_49, e_X4_goOn_50, e_X4_goOn_53, e_X4_goOn_54, e_X4_goOn_55, e_X4_goOn_57, e_X4_goOn_60, e_X4_goOn_61, e_X4_goOn_63, e_X4_goOn_64, e_X4_goOn_67, e_X4_goOn_70, e_X4_goOn_71, e_X4_goOn_74, e_X4_goOn_75, e_X4_goOn_76, e_X4_goOn_77, e_X4_goOn_79, e_X4_goOn_82, e_X4_goOn_83, e_X4_goOn_85, e_X4_goOn_86, e_X4_goOn_89, e_X4_goOn_92, e_X4_goOn_93, e_X4_goOn_96, e_X4_goOn_97, e_X4_goOn_98, e_X4_goOn_99, e_X4_goOn_100, e_X4_goOn_103, e_X4_goOn_104, e_X4_goOn_105, e_X4_goOn_106, e_X4_goOn_108, e_X4_goOn_111, e_X4_goOn_112, e_X4_goOn_115, e_X4_goOn_116, e_X4_goOn_119, e_X4_goOn_120, e_X4_goOn_121, e_X4_goOn_124, e_X4_goOn_125, e_X4_goOn_128, e_X4_goOn_131, e_X4_goOn_132, e_X4_goOn_133, e_X4_goOn_136, e_X4_goOn_139, e_X4_goOn_140, e_X4_goOn_143, e_X4_goOn_144, e_X4_goOn_145, e_X4_goOn_146, e_X4_goOn_147, e_X4_goOn_150, e_X4_goOn_151, e_X4_goOn_152, e_X4_goOn_153, e_X4_goOn_156, e_X4_goOn_157, e_X4_goOn_158, q17, n17, if_true, if_false, Option.getD_some, Option.bind_some, Option.toList_some, Option.toList_none, List.cons_append, List.nil_append]
        rfl
      · rw [if_neg g] at hs; cases hs
  · obtain ⟨f2, hPO⟩ := SW_3 hS rfl
    rw [if_neg (by decide), if_neg (by decide), if_neg (by decide), if_pos (by decide)]
    rw [if_neg (show ¬ (3 : Nat) = 1 by decide), if_neg (show ¬ (3 : Nat) = 2 by decide), if_pos rfl]
    obtain ⟨I2, k1, k2, k3⟩ := x_goOnNp (e := e) (L := L) (c := c) hR ha hB hv (by omega) hc
    refine ⟨I2, R, a, b, ?_, XG_rf hR k2, fun s2 hs => ?_⟩
    · by_cases g : 21 ≤ c ∧ c ≤ 24
      · rw [if_pos g]
        rw [decide_eq_true g, b1] at k1
        simp (disch := first | exact rt_bo_0 | exact rt_bo_1 | exact ns_float | exact ns_int | exact ns_ref | assumption | omega | (simp (disch := omega) only [ob_17, rg_17_0 hR, rg_17_1 hR, rg_17_2 hR, ar_26, ln_26, rt_in_nI, Option.isSome_some, Option.getD_some, Bool.or_true, Bool.true_or]; done) | fail) only [e_X4_goOn_1, e_X4_goOn_48, e_X4_goOn_49, e_X4_goOn_50, e_X4_goOn_53, e_X4_goOn_54, e_X4_goOn_55, e_X4_goOn_57, e_X4_goOn_60, e_X4_goOn_61, e_X4_goOn_63, e_X4_goOn_64, e_X4_goOn_67, e_X4_goOn_70, e_X4_goOn_71, e_X4_goOn_74, e_X4_goOn_75, e_X4_goOn_76, e_X4_goOn_77, e_X4_goOn_79, e_X4_goOn_82, e_X4_goOn_83, e_X4_goOn_85, e_X4_goOn_86, e_X4_goOn_89, e_X4_goOn_92, e_X4_goOn_93, e_X4_goOn_96, e_X4_goOn_97, e_X4_goOn_98, e_X4_goOn_99, e_X4_goOn_100, e_X4_goOn_103, e_X4_goOn_104, e_X4_goOn_105, e_X4_goOn_106, e_X4_goOn_108, e_X4_goOn_111, e_X4_goOn_112, e_X4_goOn_115, e_X4_goOn_116, e_X4_goOn_119, e_X4_goOn_120, e_X4_goOn_121, e_X4_goOn_124, e_X4_goOn_125, e_X4_goOn_128, e_X4_goOn_131, e_X4_goOn_132, e_X4_goOn_133, e_X4_goOn_136, e_X4_goOn_139, e_X4_goOn_140, e_X4_goOn_143, e_X4_goOn_144, e_X4_goOn_145, e_X4_goOn_146, e_X4_goOn_147, e_X4_goOn_150, e_X4_goOn_151, e_X4_goOn_152, e_X4_goOn_153, e_X4_goOn_156, e_X4_goOn_157, e_X4_goOn_158, k1, Option.getD_some, Option.bind_some, Option.toList_some, Option.toList_none, List.cons_append, List.nil_append]
        rfl
      · rw [if_neg g]
        rw [decide_eq_false g, b0] at k1
        simp (disch := first | exact rt_bo_0 | exact rt_bo_1 | exact ns_float | exact ns_int | exact ns_ref | assumption | omega | (simp (disch := omega) only [ob_17, rg_17_0 hR, rg_17_1 hR, rg_17_2 hR, ar_26, ln_26, rt_in_nI, Option.isSome_some, Option.getD_some, Bool.or_true, Bool.true_or]; done) | fail) only [e_X4_goOn_1, e_X4_goOn_48, e_X4_goOn_49, e_X4_goOn_50, e_X4_goOn_53, e_X4_goOn_54, e_X4_goOn_55, e_X4_goOn_57, e_X4_goOn_60, e_X4_goOn_61, e_X4_goOn_63, e_X4_goOn_64, e_X4_goOn_67, e_X4_goOn_70, e_X4_goOn_71, e_X4_goOn_74, e_X4_goOn_75, e_X4_goOn_76, e_X4_goOn_77, e_X4_goOn_79, e_X4_goOn_82, e_X4_goOn_83, e_X4_goOn_85, e_X4_goOn_86, e_X4_goOn_89, e_X4_goOn_92, e_X4_goOn_93, e_X4_goOn_96, e_X4_goOn_97, e_X4_goOn_98, e_X4_goOn_99, e_X4_goOn_100, e_X4_goOn_103, e_X4_goOn_104, e_X4_goOn_105, e_X4_goOn_106, e_X4_goOn_108, e_X4_goOn_111, e_X4_goOn_112, e_X4_goOn_115, e_X4_goOn_116, e_X4_goOn_119, e_X4_goOn_120, e_X4_goOn_121, e_X4_goOn_124, e_X4_goOn_125, e_X4_goOn_128, e_X4_goOn_131, e_X4_goOn_132, e_X4_goOn_133, e_X4_goOn_136, e_X4_goOn_139, e_X4_goOn_140, e_X4_goOn_143, e_X4_goOn_144, e_X4_goOn_145, e_X4_goOn_146, e_X4_goOn_147, e_X4_goOn_150, e_X4_goOn_151, e_X4_goOn_152, e_X4_goOn_153, e_X4_goOn_156, e_X4_goOn_157, e_X4_goOn_158, k1, Option.getD_some, Option.bind_some, Option.toList_some, Option.toList_none, List.cons_append, List.nil_append]
        rfl
    · by_cases g : 21 ≤ c ∧ c ≤ 24
      · rw [if_pos g, Option.some.injEq] at hs
        subst hs
        exact k3 g
      · rw [if_neg g] at hs; cases hs
  · obtain ⟨rfl, hPO, hdn, hK⟩ := SW_4 hS rfl
    rw [if_neg (by decide), if_neg (by decide), if_neg (by decide), if_neg (by decide), if_pos (by decide)]
    rw [if_neg (show ¬ (4 : Nat) = 1 by decide), if_neg (show ¬ (4 : Nat) = 2 by decide), if_neg (show ¬ (4 : Nat) = 3 by decide), if_pos rfl]
    change I 17 4 = nI (vbX 7) at hv
    have hB0 := hB
    obtain ⟨⟨h1, h2, h3⟩, ⟨h4, h5, h6, h7⟩, ⟨h8, h9, h10⟩⟩ := hB0
    have fI : ∀ (y z : Int32) c, c ≠ 17 → (rt_up (rt_up I 17 6 y) 17 5 z) c = I c := fun y z c h1 => by rw [rt_up_f h1, rt_up_f h1]
    by_cases g : c = 20
    · have n20 : (nI c = nI 20) = True := eq_true (by rw [g])
      refine ⟨rt_up (rt_up I 17 6 1) 17 5 (nI 5), R, a, b, ?_, XG_rf hR (FrG_up (FrG_up FrG_rf (by decide) (by decide) (by decide)) (by decide) (by decide) (by decide)), fun s2 hs => ?_⟩
      · rw [if_pos g]
        simp (disch := first | exact rt_bo_0 | exact rt_bo_1 | exact ns_float | exact ns_int | exact ns_ref | assumption | omega | (simp (disch := omega) only [ob_17, rg_17_0 hR, rg_17_1 hR, rg_17_2 hR, ar_26, ln_26, rt_in_nI, Option.isSome_some, Option.getD_some, Bool.or_true, Bool.true_or]; done) | fail) only [e_X4_goOn_1, e_X4_goOn_48, e_X4_goOn_49, e_X4_goOn_50, e_X4_goOn_53, e_X4_goOn_54, e_X4_goOn_55, e_X4_goOn_57, e_X4_goOn_60, e_X4_goOn_61, e_X4_goOn_63, e_X4_goOn_64, e_X4_goOn_67, e_X4_goOn_70, e_X4_goOn_71, e_X4_goOn_74, e_X4_goOn_75, e_X4_goOn_76, e_X4_goOn_77, e_X4_goOn_79, e_X4_goOn_82, e_X4_goOn_83, e_X4_goOn_85, e_X4_goOn_86, e_X4_goOn_89, e_X4_goOn_92, e_X4_goOn_93, e_X4_goOn_96, e_X4_goOn_97, e_X4_goOn_98, e_X4_goOn_99, e_X4_goOn_100, e_X4_goOn_103, e_X4_goOn_104, e_X4_goOn_105, e_X4_goOn_106, e_X4_goOn_108, e_X4_goOn_111, e_X4_goOn_112, e_X4_goOn_115, e_X4_goOn_116, e_X4_goOn_119, e_X4_goOn_120, e_X4_goOn_121, e_X4_goOn_124, e_X4_goOn_125, e_X4_goOn_128, e_X4_goOn_131, e_X4_goOn_132, e_X4_goOn_133, e_X4_goOn_136, e_X4_goOn_139, e_X4_goOn_140, e_X4_goOn_143, e_X4_goOn_144, e_X4_goOn_145, e_X4_goOn_146, e_X4_goOn_147, e_X4_goOn_150, e_X4_goOn_151, e_X4_goOn_152, e_X4_goOn_153, e_X4_goOn_156, e_X4_goOn_157, e_X4_goOn_158, q20, q5, n20, rt_up_n2, rt_up_eq, q_10, if_true, if_false, Option.getD_some, Option.bind_some, Option.toList_some, Option.toList_none, List.cons_append, List.nil_append]
        rfl
      · rw [if_pos g, Option.some.injEq] at hs
        subst hs
        refine ⟨⟨⟨?_, ?_, ?_⟩, ⟨?_, ?_, fun k hk => ?_, fun i hi => ?_⟩, ⟨?_, ?_, RX_fr h10 (fI _ _ a (by omega))⟩⟩, rt_up_eq, ?_⟩
        · rw [rt_up_n2 (by decide), rt_up_eq]; rfl
        · rw [rt_up_n2 (by decide), rt_up_n2 (by decide)]; exact h2
        · rw [rt_up_n2 (by decide), rt_up_n2 (by decide)]; exact h3
        · rw [fI _ _ 18 (by decide)]; exact h4
        · rw [fI _ _ 18 (by decide)]; exact h5
        · rw [fI _ _ 19 (by decide), fI _ _ 20 (by decide), fI _ _ 21 (by decide)]; exact h6 k hk
        · rw [fI _ _ 22 (by decide)]; exact h7 i hi
        · rw [fI _ _ 23 (by decide)]; exact h8
        · rw [fI _ _ 23 (by decide)]; exact h9
        · rw [rt_up_n2 (by decide), rt_up_n2 (by decide)]; exact hv
    · have n20 : (nI c = nI 20) = False := by rw [q_eq (by omega) (by omega)]; exact eq_false g
      have hB2 : CB (rt_up (rt_up I 17 6 0) 17 5 (nI 5)) a ((4, 7, dn), ((P, O), K, Lk, Nn, Rl), W) := by
        refine ⟨⟨?_, ?_, ?_⟩, ⟨?_, ?_, fun k hk => ?_, fun i hi => ?_⟩, ⟨?_, ?_, RX_fr h10 (fI _ _ a (by omega))⟩⟩
        · rw [rt_up_n2 (by decide), rt_up_eq]; rfl
        · rw [rt_up_n2 (by decide), rt_up_n2 (by decide)]; exact h2
        · rw [rt_up_n2 (by decide), rt_up_n2 (by decide)]; exact h3
        · rw [fI _ _ 18 (by decide)]; exact h4
        · rw [fI _ _ 18 (by decide)]; exact h5
        · rw [fI _ _ 19 (by decide), fI _ _ 20 (by decide), fI _ _ 21 (by decide)]; exact h6 k hk
        · rw [fI _ _ 22 (by decide)]; exact h7 i hi
        · rw [fI _ _ 23 (by decide)]; exact h8
        · rw [fI _ _ 23 (by decide)]; exact h9
      obtain ⟨I2, k1, k2, k3⟩ := x_goOnN (e := e) (L := L) (c := c) hR ha hB2 (by rw [rt_up_n2 (by decide), rt_up_n2 (by decide)]; exact hv) (by omega) hP7 hc
      refine ⟨I2, R, a, b, ?_, XG_rf hR (FrG_tr (FrG_up (FrG_up FrG_rf (by decide) (by decide) (by decide)) (by decide) (by decide) (by decide)) k2), fun s2 hs => ?_⟩
      · rw [if_neg g]
        cases hq : (sN c ((4, 7, dn), ((P, O), K, Lk, Nn, Rl), W)).isSome with
        | true =>
          rw [hq, b1] at k1
          simp (disch := first | exact rt_bo_0 | exact rt_bo_1 | exact ns_float | exact ns_int | exact ns_ref | assumption | omega | (simp (disch := omega) only [ob_17, rg_17_0 hR, rg_17_1 hR, rg_17_2 hR, ar_26, ln_26, rt_in_nI, Option.isSome_some, Option.getD_some, Bool.or_true, Bool.true_or]; done) | fail) only [e_X4_goOn_1, e_X4_goOn_48, e_X4_goOn_49, e_X4_goOn_50, e_X4_goOn_53, e_X4_goOn_54, e_X4_goOn_55, e_X4_goOn_57, e_X4_goOn_60, e_X4_goOn_61, e_X4_goOn_63, e_X4_goOn_64, e_X4_goOn_67, e_X4_goOn_70, e_X4_goOn_71, e_X4_goOn_74, e_X4_goOn_75, e_X4_goOn_76, e_X4_goOn_77, e_X4_goOn_79, e_X4_goOn_82, e_X4_goOn_83, e_X4_goOn_85, e_X4_goOn_86, e_X4_goOn_89, e_X4_goOn_92, e_X4_goOn_93, e_X4_goOn_96, e_X4_goOn_97, e_X4_goOn_98, e_X4_goOn_99, e_X4_goOn_100, e_X4_goOn_103, e_X4_goOn_104, e_X4_goOn_105, e_X4_goOn_106, e_X4_goOn_108, e_X4_goOn_111, e_X4_goOn_112, e_X4_goOn_115, e_X4_goOn_116, e_X4_goOn_119, e_X4_goOn_120, e_X4_goOn_121, e_X4_goOn_124, e_X4_goOn_125, e_X4_goOn_128, e_X4_goOn_131, e_X4_goOn_132, e_X4_goOn_133, e_X4_goOn_136, e_X4_goOn_139, e_X4_goOn_140, e_X4_goOn_143, e_X4_goOn_144, e_X4_goOn_145, e_X4_goOn_146, e_X4_goOn_147, e_X4_goOn_150, e_X4_goOn_151, e_X4_goOn_152, e_X4_goOn_153, e_X4_goOn_156, e_X4_goOn_157, e_X4_goOn_158, q20, q5, n20, rt_up_n2, rt_up_eq, k1, q_00, q_10, if_true, if_false, Option.getD_some, Option.bind_some, Option.toList_some, Option.toList_none, List.cons_append, List.nil_append]
          rfl
        | false =>
          rw [hq, b0] at k1
          simp (disch := first | exact rt_bo_0 | exact rt_bo_1 | exact ns_float | exact ns_int | exact ns_ref | assumption | omega | (simp (disch := omega) only [ob_17, rg_17_0 hR, rg_17_1 hR, rg_17_2 hR, ar_26, ln_26, rt_in_nI, Option.isSome_some, Option.getD_some, Bool.or_true, Bool.true_or]; done) | fail) only [e_X4_goOn_1, e_X4_goOn_48, e_X4_goOn_49, e_X4_goOn_50, e_X4_goOn_53, e_X4_goOn_54, e_X4_goOn_55, e_X4_goOn_57, e_X4_goOn_60, e_X4_goOn_61, e_X4_goOn_63, e_X4_goOn_64, e_X4_goOn_67, e_X4_goOn_70, e_X4_goOn_71, e_X4_goOn_74, e_X4_goOn_75, e_X4_goOn_76, e_X4_goOn_77, e_X4_goOn_79, e_X4_goOn_82, e_X4_goOn_83, e_X4_goOn_85, e_X4_goOn_86, e_X4_goOn_89, e_X4_goOn_92, e_X4_goOn_93, e_X4_goOn_96, e_X4_goOn_97, e_X4_goOn_98, e_X4_goOn_99, e_X4_goOn_100, e_X4_goOn_103, e_X4_goOn_104, e_X4_goOn_105, e_X4_goOn_106, e_X4_goOn_108, e_X4_goOn_111, e_X4_goOn_112, e_X4_goOn_115, e_X4_goOn_116, e_X4_goOn_119, e_X4_goOn_120, e_X4_goOn_121, e_X4_goOn_124, e_X4_goOn_125, e_X4_goOn_128, e_X4_goOn_131, e_X4_goOn_132, e_X4_goOn_133, e_X4_goOn_136, e_X4_goOn_139, e_X4_goOn_140, e_X4_goOn_143, e_X4_goOn_144, e_X4_goOn_145, e_X4_goOn_146, e_X4_goOn_147, e_X4_goOn_150, e_X4_goOn_151, e_X4_goOn_152, e_X4_goOn_153, e_X4_goOn_156, e_X4_goOn_157, e_X4_goOn_158, q20, q5, n20, rt_up_n2, rt_up_eq, k1, q_00, q_10, if_true, if_false, Option.getD_some, Option.bind_some, Option.toList_some, Option.toList_none, List.cons_append, List.nil_append]
          rfl
      · rw [if_neg g] at hs
        exact k3 s2 hs
  · obtain ⟨f2, hPO, hdn, hK⟩ := SW_5 hS rfl
    rw [if_neg (by decide), if_neg (by decide), if_neg (by decide), if_neg (by decide), if_neg (by decide), if_pos (by decide)]
    rw [if_neg (show ¬ (5 : Nat) = 1 by decide), if_neg (show ¬ (5 : Nat) = 2 by decide), if_neg (show ¬ (5 : Nat) = 3 by decide), if_neg (show ¬ (5 : Nat) = 4 by decide), if_pos rfl]
    obtain ⟨I2, k1, k2, k3⟩ := x_goOnN (e := e) (L := L) (c := c) hR ha hB hv (by omega) hP7 hc
    refine ⟨I2, R, a, b, ?_, XG_rf hR k2, k3⟩
    cases hq : (sN c ((5, fm, dn), ((P, O), K, Lk, Nn, Rl), W)).isSome with
    | true =>
      rw [hq, b1] at k1
      simp (disch := first | exact rt_bo_0 | exact rt_bo_1 | exact ns_float | exact ns_int | exact ns_ref | assumption | omega | (simp (disch := omega) only [ob_17, rg_17_0 hR, rg_17_1 hR, rg_17_2 hR, ar_26, ln_26, rt_in_nI, Option.isSome_some, Option.getD_some, Bool.or_true, Bool.true_or]; done) | fail) only [e_X4_goOn_1, e_X4_goOn_48, e_X4_goOn_49, e_X4_goOn_50, e_X4_goOn_53, e_X4_goOn_54, e_X4_goOn_55, e_X4_goOn_57, e_X4_goOn_60, e_X4_goOn_61, e_X4_goOn_63, e_X4_goOn_64, e_X4_goOn_67, e_X4_goOn_70, e_X4_goOn_71, e_X4_goOn_74, e_X4_goOn_75, e_X4_goOn_76, e_X4_goOn_77, e_X4_goOn_79, e_X4_goOn_82, e_X4_goOn_83, e_X4_goOn_85, e_X4_goOn_86, e_X4_goOn_89, e_X4_goOn_92, e_X4_goOn_93, e_X4_goOn_96, e_X4_goOn_97, e_X4_goOn_98, e_X4_goOn_99, e_X4_goOn_100, e_X4_goOn_103, e_X4_goOn_104, e_X4_goOn_105, e_X4_goOn_106, e_X4_goOn_108, e_X4_goOn_111, e_X4_goOn_112, e_X4_goOn_115, e_X4_goOn_116, e_X4_goOn_119, e_X4_goOn_120, e_X4_goOn_121, e_X4_goOn_124, e_X4_goOn_125, e_X4_goOn_128, e_X4_goOn_131, e_X4_goOn_132, e_X4_goOn_133, e_X4_goOn_136, e_X4_goOn_139, e_X4_goOn_140, e_X4_goOn_143, e_X4_goOn_144, e_X4_goOn_145, e_X4_goOn_146, e_X4_goOn_147, e_X4_goOn_150, e_X4_goOn_151, e_X4_goOn_152, e_X4_goOn_153, e_X4_goOn_156, e_X4_goOn_157, e_X4_goOn_158, k1, Option.getD_some, Option.bind_some, Option.toList_some, Option.toList_none, List.cons_append, List.nil_append]
      rfl
    | false =>
      rw [hq, b0] at k1
      simp (disch := first | exact rt_bo_0 | exact rt_bo_1 | exact ns_float | exact ns_int | exact ns_ref | assumption | omega | (simp (disch := omega) only [ob_17, rg_17_0 hR, rg_17_1 hR, rg_17_2 hR, ar_26, ln_26, rt_in_nI, Option.isSome_some, Option.getD_some, Bool.or_true, Bool.true_or]; done) | fail) only [e_X4_goOn_1, e_X4_goOn_48, e_X4_goOn_49, e_X4_goOn_50, e_X4_goOn_53, e_X4_goOn_54, e_X4_goOn_55, e_X4_goOn_57, e_X4_goOn_60, e_X4_goOn_61, e_X4_goOn_63, e_X4_goOn_64, e_X4_goOn_67, e_X4_goOn_70, e_X4_goOn_71, e_X4_goOn_74, e_X4_goOn_75, e_X4_goOn_76, e_X4_goOn_77, e_X4_goOn_79, e_X4_goOn_82, e_X4_goOn_83, e_X4_goOn_85, e_X4_goOn_86, e_X4_goOn_89, e_X4_goOn_92, e_X4_goOn_93, e_X4_goOn_96, e_X4_goOn_97, e_X4_goOn_98, e_X4_goOn_99, e_X4_goOn_100, e_X4_goOn_103, e_X4_goOn_104, e_X4_goOn_105, e_X4_goOn_106, e_X4_goOn_108, e_X4_goOn_111, e_X4_goOn_112, e_X4_goOn_115, e_X4_goOn_116, e_X4_goOn_119, e_X4_goOn_120, e_X4_goOn_121, e_X4_goOn_124, e_X4_goOn_125, e_X4_goOn_128, e_X4_goOn_131, e_X4_goOn_132, e_X4_goOn_133, e_X4_goOn_136, e_X4_goOn_139, e_X4_goOn_140, e_X4_goOn_143, e_X4_goOn_144, e_X4_goOn_145, e_X4_goOn_146, e_X4_goOn_147, e_X4_goOn_150, e_X4_goOn_151, e_X4_goOn_152, e_X4_goOn_153, e_X4_goOn_156, e_X4_goOn_157, e_X4_goOn_158, k1, Option.getD_some, Option.bind_some, Option.toList_some, Option.toList_none, List.cons_append, List.nil_append]
      rfl
  · rw [if_neg (by decide), if_neg (by decide), if_neg (by decide), if_neg (by decide), if_neg (by decide), if_neg (by decide), if_pos (by decide)]
    rw [if_neg (show ¬ (6 : Nat) = 1 by decide), if_neg (show ¬ (6 : Nat) = 2 by decide), if_neg (show ¬ (6 : Nat) = 3 by decide), if_neg (show ¬ (6 : Nat) = 4 by decide), if_neg (show ¬ (6 : Nat) = 5 by decide), if_pos rfl]
    obtain ⟨I2, R2, a2, b2, k1, k2, k3, k4, k5, k6⟩ := x_goOnBehind (e := e) (L := L) (c := c) hR ha hb hab hX0 hS hO hc hnw
    refine ⟨I2, R2, a2, b2, ?_, ⟨k2, k3, k4, k5⟩, k6⟩
    cases hq : (sM c ((6, fm, dn), ((P, O), K, Lk, Nn, Rl), W)).isSome with
    | true =>
      rw [hq, b1] at k1
      simp (disch := first | exact rt_bo_0 | exact rt_bo_1 | exact ns_float | exact ns_int | exact ns_ref | assumption | omega | (simp (disch := omega) only [ob_17, rg_17_0 hR, rg_17_1 hR, rg_17_2 hR, ar_26, ln_26, rt_in_nI, Option.isSome_some, Option.getD_some, Bool.or_true, Bool.true_or]; done) | fail) only [e_X4_goOn_1, e_X4_goOn_48, e_X4_goOn_49, e_X4_goOn_50, e_X4_goOn_53, e_X4_goOn_54, e_X4_goOn_55, e_X4_goOn_57, e_X4_goOn_60, e_X4_goOn_61, e_X4_goOn_63, e_X4_goOn_64, e_X4_goOn_67, e_X4_goOn_70, e_X4_goOn_71, e_X4_goOn_74, e_X4_goOn_75, e_X4_goOn_76, e_X4_goOn_77, e_X4_goOn_79, e_X4_goOn_82, e_X4_goOn_83, e_X4_goOn_85, e_X4_goOn_86, e_X4_goOn_89, e_X4_goOn_92, e_X4_goOn_93, e_X4_goOn_96, e_X4_goOn_97, e_X4_goOn_98, e_X4_goOn_99, e_X4_goOn_100, e_X4_goOn_103, e_X4_goOn_104, e_X4_goOn_105, e_X4_goOn_106, e_X4_goOn_108, e_X4_goOn_111, e_X4_goOn_112, e_X4_goOn_115, e_X4_goOn_116, e_X4_goOn_119, e_X4_goOn_120, e_X4_goOn_121, e_X4_goOn_124, e_X4_goOn_125, e_X4_goOn_128, e_X4_goOn_131, e_X4_goOn_132, e_X4_goOn_133, e_X4_goOn_136, e_X4_goOn_139, e_X4_goOn_140, e_X4_goOn_143, e_X4_goOn_144, e_X4_goOn_145, e_X4_goOn_146, e_X4_goOn_147, e_X4_goOn_150, e_X4_goOn_151, e_X4_goOn_152, e_X4_goOn_153, e_X4_goOn_156, e_X4_goOn_157, e_X4_goOn_158, k1, Option.getD_some, Option.bind_some, Option.toList_some, Option.toList_none, List.cons_append, List.nil_append]
      rfl
    | false =>
      rw [hq, b0] at k1
      simp (disch := first | exact rt_bo_0 | exact rt_bo_1 | exact ns_float | exact ns_int | exact ns_ref | assumption | omega | (simp (disch := omega) only [ob_17, rg_17_0 hR, rg_17_1 hR, rg_17_2 hR, ar_26, ln_26, rt_in_nI, Option.isSome_some, Option.getD_some, Bool.or_true, Bool.true_or]; done) | fail) only [e_X4_goOn_1, e_X4_goOn_48, e_X4_goOn_49, e_X4_goOn_50, e_X4_goOn_53, e_X4_goOn_54, e_X4_goOn_55, e_X4_goOn_57, e_X4_goOn_60, e_X4_goOn_61, e_X4_goOn_63, e_X4_goOn_64, e_X4_goOn_67, e_X4_goOn_70, e_X4_goOn_71, e_X4_goOn_74, e_X4_goOn_75, e_X4_goOn_76, e_X4_goOn_77, e_X4_goOn_79, e_X4_goOn_82, e_X4_goOn_83, e_X4_goOn_85, e_X4_goOn_86, e_X4_goOn_89, e_X4_goOn_92, e_X4_goOn_93, e_X4_goOn_96, e_X4_goOn_97, e_X4_goOn_98, e_X4_goOn_99, e_X4_goOn_100, e_X4_goOn_103, e_X4_goOn_104, e_X4_goOn_105, e_X4_goOn_106, e_X4_goOn_108, e_X4_goOn_111, e_X4_goOn_112, e_X4_goOn_115, e_X4_goOn_116, e_X4_goOn_119, e_X4_goOn_120, e_X4_goOn_121, e_X4_goOn_124, e_X4_goOn_125, e_X4_goOn_128, e_X4_goOn_131, e_X4_goOn_132, e_X4_goOn_133, e_X4_goOn_136, e_X4_goOn_139, e_X4_goOn_140, e_X4_goOn_143, e_X4_goOn_144, e_X4_goOn_145, e_X4_goOn_146, e_X4_goOn_147, e_X4_goOn_150, e_X4_goOn_151, e_X4_goOn_152, e_X4_goOn_153, e_X4_goOn_156, e_X4_goOn_157, e_X4_goOn_158, k1, Option.getD_some, Option.bind_some, Option.toList_some, Option.toList_none, List.cons_append, List.nil_append]
      rfl
  · rw [if_neg (by decide), if_neg (by decide), if_neg (by decide), if_neg (by decide), if_neg (by decide), if_neg (by decide), if_neg (by decide)]
    rw [if_neg (show ¬ (7 : Nat) = 1 by decide), if_neg (show ¬ (7 : Nat) = 2 by decide), if_neg (show ¬ (7 : Nat) = 3 by decide), if_neg (show ¬ (7 : Nat) = 4 by decide), if_neg (show ¬ (7 : Nat) = 5 by decide), if_neg (show ¬ (7 : Nat) = 6 by decide)]
    refine ⟨I, R, a, b, ?_, XG_rf hR FrG_rf, fun s2 hs => by cases hs⟩
    simp (disch := first | exact rt_bo_0 | exact rt_bo_1 | exact ns_float | exact ns_int | exact ns_ref | assumption | omega | (simp (disch := omega) only [ob_17, rg_17_0 hR, rg_17_1 hR, rg_17_2 hR, ar_26, ln_26, rt_in_nI, Option.isSome_some, Option.getD_some, Bool.or_true, Bool.true_or]; done) | fail) only [e_X4_goOn_1, e_X4_goOn_48, e_X4_goOn_49, e_X4_goOn_50, e_X4_goOn_53, e_X4_goOn_54, e_X4_goOn_55, e_X4_goOn_57, e_X4_goOn_60, e_X4_goOn_61, e_X4_goOn_63, e_X4_goOn_64, e_X4_goOn_67, e_X4_goOn_70, e_X4_goOn_71, e_X4_goOn_74, e_X4_goOn_75, e_X4_goOn_76, e_X4_goOn_77, e_X4_goOn_79, e_X4_goOn_82, e_X4_goOn_83, e_X4_goOn_85, e_X4_goOn_86, e_X4_goOn_89, e_X4_goOn_92, e_X4_goOn_93, e_X4_goOn_96, e_X4_goOn_97, e_X4_goOn_98, e_X4_goOn_99, e_X4_goOn_100, e_X4_goOn_103, e_X4_goOn_104, e_X4_goOn_105, e_X4_goOn_106, e_X4_goOn_108, e_X4_goOn_111, e_X4_goOn_112, e_X4_goOn_115, e_X4_goOn_116, e_X4_goOn_119, e_X4_goOn_120, e_X4_goOn_121, e_X4_goOn_124, e_X4_goOn_125, e_X4_goOn_128, e_X4_goOn_131, e_X4_goOn_132, e_X4_goOn_133, e_X4_goOn_136, e_X4_goOn_139, e_X4_goOn_140, e_X4_goOn_143, e_X4_goOn_144, e_X4_goOn_145, e_X4_goOn_146, e_X4_goOn_147, e_X4_goOn_150, e_X4_goOn_151, e_X4_goOn_152, e_X4_goOn_153, e_X4_goOn_156, e_X4_goOn_157, e_X4_goOn_158]
    rfl
theorem x_first (hR : RG R a b) (ha : a = 24 ∨ a = 25) (hB : CB I a (sInit 0 0)) (hw : I 17 5 = 0) (hc : c < 40) : ∃ I2, Ev mX4_goOn 0 [.ref 17, .int (nI c)] [] (71 + e, I, L, R) = some (some (.int (b01 (sFirst c).isSome)), (71 + e, I2, L, R)) ∧ FrG I I2 ∧ ∀ s, sFirst c = some s → CX I2 a s := by
  have q11 : (11 : Int32) = nI 11 := rfl
  have q12 : (12 : Int32) = nI 12 := rfl
  have q13 : (13 : Int32) = nI 13 := rfl
  have q14 : (14 : Int32) = nI 14 := rfl
  have q15 : (15 : Int32) = nI 15 := rfl
  have q16 : (16 : Int32) = nI 16 := rfl
  have q17 : (17 : Int32) = nI 17 := rfl
  have q18 : (18 : Int32) = nI 18 := rfl
  have q5 : (5 : Int32) = nI 5 := rfl
  have q3 : (3 : Int32) = nI 3 := rfl
  have q7 : (7 : Int32) = nI 7 := rfl
  have q1 : (1 : Int32) = nI 1 := rfl
  have b1 : b01 true = 1 := rfl
  have b0 : b01 false = 0 := rfl
  have hBf : ∀ md fm, fm ≠ 8 → CB I a (sInit md fm) := by
    intro md fm hf
    obtain ⟨⟨h1, h2, h3⟩, h4, h5⟩ := hB
    exact ⟨⟨by rw [h1, decide_eq_false hf]; rfl, h2, h3⟩, h4, h5⟩
  have st0 : Ev mX4_goOn 0 [.ref 17, .int (nI c)] [] (71 + e, I, L, R) = (Ev mX4_begin 0 [.ref 17, .int (nI c)] [] (71 + e, I, L, R)).bind (fun q => Ev mX4_goOn 53 [.ref 17, .int (nI c)] (q.1.toList ++ []) q.2) := by
    simp (disch := first | exact rt_bo_0 | exact rt_bo_1 | exact ns_float | exact ns_int | exact ns_ref | assumption | omega | (simp (disch := omega) only [ob_17, rg_17_0 hR, rg_17_1 hR, rg_17_2 hR, ar_26, ln_26, rt_in_nI, Option.isSome_some, Option.getD_some, Bool.or_true, Bool.true_or]; done) | fail) only [e_X4_goOn_0, e_X4_goOn_1, hw]
    rw [e_X4_goOn_4, if_pos rfl]
    simp (disch := first | exact rt_bo_0 | exact rt_bo_1 | exact ns_float | exact ns_int | exact ns_ref | assumption | omega | (simp (disch := omega) only [ob_17, rg_17_0 hR, rg_17_1 hR, rg_17_2 hR, ar_26, ln_26, rt_in_nI, Option.isSome_some, Option.getD_some, Bool.or_true, Bool.true_or]; done) | fail) only [e_X4_goOn_48, e_X4_goOn_49, e_X4_goOn_50]
  have st1 : Ev mX4_begin 0 [.ref 17, .int (nI c)] [] (71 + e, I, L, R) = Ev mX4_begin 6 [.ref 17, .int (nI c)] [.int (nI c)] (71 + e, rt_up I 17 4 (nI c), L, R) := by
    simp (disch := first | exact rt_bo_0 | exact rt_bo_1 | exact ns_float | exact ns_int | exact ns_ref | assumption | omega | (simp (disch := omega) only [ob_17, rg_17_0 hR, rg_17_1 hR, rg_17_2 hR, ar_26, ln_26, rt_in_nI, Option.isSome_some, Option.getD_some, Bool.or_true, Bool.true_or]; done) | fail) only [e_X4_begin_0, e_X4_begin_1, e_X4_begin_2, e_X4_begin_5]
  have ne : ∀ m, m < 40 → c ≠ m → ¬ nI c = nI m := fun m h1 h2 h3 => by rw [q_eq (by omega) (by omega)] at h3; exact h2 h3
  have hvb : ∀ m fm, fm < 6 → c = 11 + fm → m ≠ 1 → m ≠ 2 → nI c = vbS m fm := by
    intro m fm h1 h2 h3 h4
    unfold vbS vbX
    rw [if_neg h3, if_neg h4, if_pos h1, h2]
  unfold sFirst
  rw [st0, st1, e_X4_begin_6, q11, q12, q13, q14, q15, q16, q17, q18]
  by_cases g1 : c = 11 ∨ c = 12 ∨ c = 14
  · rw [if_pos g1]
    have stn : (if nI c = nI 11 then Ev mX4_begin 52 [.ref 17, .int (nI c)] [] (71 + e, rt_up I 17 4 (nI c), L, R) else if nI c = nI 12 then Ev mX4_begin 52 [.ref 17, .int (nI c)] [] (71 + e, rt_up I 17 4 (nI c), L, R) else if nI c = nI 13 then Ev mX4_begin 59 [.ref 17, .int (nI c)] [] (71 + e, rt_up I 17 4 (nI c), L, R) else if nI c = nI 14 then Ev mX4_begin 52 [.ref 17, .int (nI c)] [] (71 + e, rt_up I 17 4 (nI c), L, R) else if nI c = nI 15 then Ev mX4_begin 67 [.ref 17, .int (nI c)] [] (71 + e, rt_up I 17 4 (nI c), L, R) else if nI c = nI 16 then Ev mX4_begin 67 [.ref 17, .int (nI c)] [] (71 + e, rt_up I 17 4 (nI c), L, R) else if nI c = nI 17 then Ev mX4_begin 81 [.ref 17, .int (nI c)] [] (71 + e, rt_up I 17 4 (nI c), L, R) else if nI c = nI 18 then Ev mX4_begin 74 [.ref 17, .int (nI c)] [] (71 + e, rt_up I 17 4 (nI c), L, R) else Ev mX4_begin 81 [.ref 17, .int (nI c)] [] (71 + e, rt_up I 17 4 (nI c), L, R)) = Ev mX4_begin 52 [.ref 17, .int (nI c)] [] (71 + e, rt_up I 17 4 (nI c), L, R) := by
      rcases g1 with g | g | g
      · rw [if_pos (by rw [g])]
      · rw [if_neg (ne 11 (by decide) (by omega)), if_pos (by rw [g])]
      · rw [if_neg (ne 11 (by decide) (by omega)), if_neg (ne 12 (by decide) (by omega)), if_neg (ne 13 (by decide) (by omega)), if_pos (by rw [g])]
    rw [stn]
    refine ⟨rt_up (rt_up I 17 4 (nI c)) 17 5 (nI 3), ?_, FrG_up (FrG_up FrG_rf (by decide) (by decide) (by decide)) (by decide) (by decide) (by decide), fun s hs => ?_⟩
    · simp (disch := first | exact rt_bo_0 | exact rt_bo_1 | exact ns_float | exact ns_int | exact ns_ref | assumption | omega | (simp (disch := omega) only [ob_17, rg_17_0 hR, rg_17_1 hR, rg_17_2 hR, ar_26, ln_26, rt_in_nI, Option.isSome_some, Option.getD_some, Bool.or_true, Bool.true_or]; done) | fail) only [e_X4_begin_1, e_X4_begin_2, e_X4_begin_5, e_X4_begin_52, e_X4_begin_53, e_X4_begin_54, e_X4_begin_57, e_X4_begin_58, e_X4_begin_59, e_X4_begin_60, e_X4_begin_62, e_X4_begin_65, e_X4_begin_66, e_X4_begin_67, e_X4_begin_68, e_X4_begin_69, e_X4_begin_70, e_X4_begin_73, e_X4_begin_74, e_X4_begin_75, e_X4_begin_76, e_X4_begin_79, e_X4_begin_80, e_X4_begin_81, e_X4_begin_82, e_X4_goOn_1, e_X4_goOn_48, e_X4_goOn_49, e_X4_goOn_50, e_X4_goOn_53, e_X4_goOn_54, e_X4_goOn_55, e_X4_goOn_57, e_X4_goOn_60, e_X4_goOn_61, e_X4_goOn_63, e_X4_goOn_64, e_X4_goOn_67, e_X4_goOn_70, e_X4_goOn_71, e_X4_goOn_74, e_X4_goOn_75, e_X4_goOn_76, e_X4_goOn_77, e_X4_goOn_79, e_X4_goOn_82, e_X4_goOn_83, e_X4_goOn_85, e_X4_goOn_86, e_X4_goOn_89, e_X4_goOn_92, e_X4_goOn_93, e_X4_goOn_96, e_X4_goOn_97, e_X4_goOn_98, e_X4_goOn_99, e_X4_goOn_100, e_X4_goOn_103, e_X4_goOn_104, e_X4_goOn_105, e_X4_goOn_106, e_X4_goOn_108, e_X4_goOn_111, e_X4_goOn_112, e_X4_goOn_115, e_X4_goOn_116, e_X4_goOn_119, e_X4_goOn_120, e_X4_goOn_121, e_X4_goOn_124, e_X4_goOn_125, e_X4_goOn_128, e_X4_goOn_131, e_X4_goOn_132, e_X4_goOn_133, e_X4_goOn_136, e_X4_goOn_139, e_X4_goOn_140, e_X4_goOn_143, e_X4_goOn_144, e_X4_goOn_145, e_X4_goOn_146, e_X4_goOn_147, e_X4_goOn_150, e_X4_goOn_151, e_X4_goOn_152, e_X4_goOn_153, e_X4_goOn_156, e_X4_goOn_157, e_X4_goOn_158, q3, Option.getD_some, Option.bind_some, Option.toList_some, Option.toList_none, List.cons_append, List.nil_append]
      rfl
    · rw [Option.some.injEq] at hs
      subst hs
      refine ⟨CB_17 (CB_17 (hBf _ _ (by omega)) ha (by decide)) ha (by decide), rt_up_eq, ?_⟩
      rw [rt_up_n2 (by decide), rt_up_eq]
      exact hvb 3 (c - 11) (by omega) (by omega) (by decide) (by decide)
  rw [if_neg g1, if_neg (ne 11 (by decide) (by omega)), if_neg (ne 12 (by decide) (by omega))]
  by_cases g2 : c = 13
  · rw [if_pos g2, if_pos (by rw [g2])]
    refine ⟨rt_up (rt_up I 17 4 (nI c)) 17 5 (nI 7), ?_, FrG_up (FrG_up FrG_rf (by decide) (by decide) (by decide)) (by decide) (by decide) (by decide), fun s hs => ?_⟩
    · simp (disch := first | exact rt_bo_0 | exact rt_bo_1 | exact ns_float | exact ns_int | exact ns_ref | assumption | omega | (simp (disch := omega) only [ob_17, rg_17_0 hR, rg_17_1 hR, rg_17_2 hR, ar_26, ln_26, rt_in_nI, Option.isSome_some, Option.getD_some, Bool.or_true, Bool.true_or]; done) | fail) only [e_X4_begin_1, e_X4_begin_2, e_X4_begin_5, e_X4_begin_52, e_X4_begin_53, e_X4_begin_54, e_X4_begin_57, e_X4_begin_58, e_X4_begin_59, e_X4_begin_60, e_X4_begin_62, e_X4_begin_65, e_X4_begin_66, e_X4_begin_67, e_X4_begin_68, e_X4_begin_69, e_X4_begin_70, e_X4_begin_73, e_X4_begin_74, e_X4_begin_75, e_X4_begin_76, e_X4_begin_79, e_X4_begin_80, e_X4_begin_81, e_X4_begin_82, e_X4_goOn_1, e_X4_goOn_48, e_X4_goOn_49, e_X4_goOn_50, e_X4_goOn_53, e_X4_goOn_54, e_X4_goOn_55, e_X4_goOn_57, e_X4_goOn_60, e_X4_goOn_61, e_X4_goOn_63, e_X4_goOn_64, e_X4_goOn_67, e_X4_goOn_70, e_X4_goOn_71, e_X4_goOn_74, e_X4_goOn_75, e_X4_goOn_76, e_X4_goOn_77, e_X4_goOn_79, e_X4_goOn_82, e_X4_goOn_83, e_X4_goOn_85, e_X4_goOn_86, e_X4_goOn_89, e_X4_goOn_92, e_X4_goOn_93, e_X4_goOn_96, e_X4_goOn_97, e_X4_goOn_98, e_X4_goOn_99, e_X4_goOn_100, e_X4_goOn_103, e_X4_goOn_104, e_X4_goOn_105, e_X4_goOn_106, e_X4_goOn_108, e_X4_goOn_111, e_X4_goOn_112, e_X4_goOn_115, e_X4_goOn_116, e_X4_goOn_119, e_X4_goOn_120, e_X4_goOn_121, e_X4_goOn_124, e_X4_goOn_125, e_X4_goOn_128, e_X4_goOn_131, e_X4_goOn_132, e_X4_goOn_133, e_X4_goOn_136, e_X4_goOn_139, e_X4_goOn_140, e_X4_goOn_143, e_X4_goOn_144, e_X4_goOn_145, e_X4_goOn_146, e_X4_goOn_147, e_X4_goOn_150, e_X4_goOn_151, e_X4_goOn_152, e_X4_goOn_153, e_X4_goOn_156, e_X4_goOn_157, e_X4_goOn_158, q7, Option.getD_some, Option.bind_some, Option.toList_some, Option.toList_none, List.cons_append, List.nil_append]
      rfl
    · rw [Option.some.injEq] at hs
      subst hs
      refine ⟨CB_17 (CB_17 (hBf _ _ (by omega)) ha (by decide)) ha (by decide), rt_up_eq, ?_⟩
      rw [rt_up_n2 (by decide), rt_up_eq]
      exact hvb 7 2 (by omega) (by omega) (by decide) (by decide)
  rw [if_neg g2, if_neg (ne 13 (by decide) g2), if_neg (ne 14 (by decide) (by omega))]
  by_cases g3 : c = 15 ∨ c = 16
  · rw [if_pos g3]
    have stn : (if nI c = nI 15 then Ev mX4_begin 67 [.ref 17, .int (nI c)] [] (71 + e, rt_up I 17 4 (nI c), L, R) else if nI c = nI 16 then Ev mX4_begin 67 [.ref 17, .int (nI c)] [] (71 + e, rt_up I 17 4 (nI c), L, R) else if nI c = nI 17 then Ev mX4_begin 81 [.ref 17, .int (nI c)] [] (71 + e, rt_up I 17 4 (nI c), L, R) else if nI c = nI 18 then Ev mX4_begin 74 [.ref 17, .int (nI c)] [] (71 + e, rt_up I 17 4 (nI c), L, R) else Ev mX4_begin 81 [.ref 17, .int (nI c)] [] (71 + e, rt_up I 17 4 (nI c), L, R)) = Ev mX4_begin 67 [.ref 17, .int (nI c)] [] (71 + e, rt_up I 17 4 (nI c), L, R) := by
      rcases g3 with g | g
      · rw [if_pos (by rw [g])]
      · rw [if_neg (ne 15 (by decide) (by omega)), if_pos (by rw [g])]
    rw [stn]
    have hB1 : CB (rt_up I 17 4 (nI c)) a (sInit 5 (c - 11)) := CB_17 (hBf 5 (c - 11) (by omega)) ha (by decide)
    have hvv : c = vbX (c - 11) := by unfold vbX; rw [if_pos (by omega)]; omega
    obtain ⟨I2, k1, k2, k3⟩ := x_beginBare (e := e) (L := L) (v := c) (w := 5) hR ha hB1 hvv (by decide) (Or.inr rfl)
    refine ⟨I2, ?_, FrG_tr (FrG_up FrG_rf (by decide) (by decide) (by decide)) k2, fun s hs => ?_⟩
    · simp (disch := first | exact rt_bo_0 | exact rt_bo_1 | exact ns_float | exact ns_int | exact ns_ref | assumption | omega | (simp (disch := omega) only [ob_17, rg_17_0 hR, rg_17_1 hR, rg_17_2 hR, ar_26, ln_26, rt_in_nI, Option.isSome_some, Option.getD_some, Bool.or_true, Bool.true_or]; done) | fail) only [e_X4_begin_1, e_X4_begin_2, e_X4_begin_5, e_X4_begin_52, e_X4_begin_53, e_X4_begin_54, e_X4_begin_57, e_X4_begin_58, e_X4_begin_59, e_X4_begin_60, e_X4_begin_62, e_X4_begin_65, e_X4_begin_66, e_X4_begin_67, e_X4_begin_68, e_X4_begin_69, e_X4_begin_70, e_X4_begin_73, e_X4_begin_74, e_X4_begin_75, e_X4_begin_76, e_X4_begin_79, e_X4_begin_80, e_X4_begin_81, e_X4_begin_82, e_X4_goOn_1, e_X4_goOn_48, e_X4_goOn_49, e_X4_goOn_50, e_X4_goOn_53, e_X4_goOn_54, e_X4_goOn_55, e_X4_goOn_57, e_X4_goOn_60, e_X4_goOn_61, e_X4_goOn_63, e_X4_goOn_64, e_X4_goOn_67, e_X4_goOn_70, e_X4_goOn_71, e_X4_goOn_74, e_X4_goOn_75, e_X4_goOn_76, e_X4_goOn_77, e_X4_goOn_79, e_X4_goOn_82, e_X4_goOn_83, e_X4_goOn_85, e_X4_goOn_86, e_X4_goOn_89, e_X4_goOn_92, e_X4_goOn_93, e_X4_goOn_96, e_X4_goOn_97, e_X4_goOn_98, e_X4_goOn_99, e_X4_goOn_100, e_X4_goOn_103, e_X4_goOn_104, e_X4_goOn_105, e_X4_goOn_106, e_X4_goOn_108, e_X4_goOn_111, e_X4_goOn_112, e_X4_goOn_115, e_X4_goOn_116, e_X4_goOn_119, e_X4_goOn_120, e_X4_goOn_121, e_X4_goOn_124, e_X4_goOn_125, e_X4_goOn_128, e_X4_goOn_131, e_X4_goOn_132, e_X4_goOn_133, e_X4_goOn_136, e_X4_goOn_139, e_X4_goOn_140, e_X4_goOn_143, e_X4_goOn_144, e_X4_goOn_145, e_X4_goOn_146, e_X4_goOn_147, e_X4_goOn_150, e_X4_goOn_151, e_X4_goOn_152, e_X4_goOn_153, e_X4_goOn_156, e_X4_goOn_157, e_X4_goOn_158, q5, k1, Option.getD_some, Option.bind_some, Option.toList_some, Option.toList_none, List.cons_append, List.nil_append]
      rfl
    · rw [Option.some.injEq] at hs
      subst hs
      exact k3
  rw [if_neg g3, if_neg (ne 15 (by decide) (by omega)), if_neg (ne 16 (by decide) (by omega))]
  by_cases g4 : c = 18
  · rw [if_pos g4, if_neg (ne 17 (by decide) (by omega)), if_pos (by rw [g4])]
    refine ⟨rt_up (rt_up I 17 4 (nI c)) 17 5 (nI 1), ?_, FrG_up (FrG_up FrG_rf (by decide) (by decide) (by decide)) (by decide) (by decide) (by decide), fun s hs => ?_⟩
    · simp (disch := first | exact rt_bo_0 | exact rt_bo_1 | exact ns_float | exact ns_int | exact ns_ref | assumption | omega | (simp (disch := omega) only [ob_17, rg_17_0 hR, rg_17_1 hR, rg_17_2 hR, ar_26, ln_26, rt_in_nI, Option.isSome_some, Option.getD_some, Bool.or_true, Bool.true_or]; done) | fail) only [e_X4_begin_1, e_X4_begin_2, e_X4_begin_5, e_X4_begin_52, e_X4_begin_53, e_X4_begin_54, e_X4_begin_57, e_X4_begin_58, e_X4_begin_59, e_X4_begin_60, e_X4_begin_62, e_X4_begin_65, e_X4_begin_66, e_X4_begin_67, e_X4_begin_68, e_X4_begin_69, e_X4_begin_70, e_X4_begin_73, e_X4_begin_74, e_X4_begin_75, e_X4_begin_76, e_X4_begin_79, e_X4_begin_80, e_X4_begin_81, e_X4_begin_82, e_X4_goOn_1, e_X4_goOn_48, e_X4_goOn_49, e_X4_goOn_50, e_X4_goOn_53, e_X4_goOn_54, e_X4_goOn_55, e_X4_goOn_57, e_X4_goOn_60, e_X4_goOn_61, e_X4_goOn_63, e_X4_goOn_64, e_X4_goOn_67, e_X4_goOn_70, e_X4_goOn_71, e_X4_goOn_74, e_X4_goOn_75, e_X4_goOn_76, e_X4_goOn_77, e_X4_goOn_79, e_X4_goOn_82, e_X4_goOn_83, e_X4_goOn_85, e_X4_goOn_86, e_X4_goOn_89, e_X4_goOn_92, e_X4_goOn_93, e_X4_goOn_96, e_X4_goOn_97, e_X4_goOn_98, e_X4_goOn_99, e_X4_goOn_100, e_X4_goOn_103, e_X4_goOn_104, e_X4_goOn_105, e_X4_goOn_106, e_X4_goOn_108, e_X4_goOn_111, e_X4_goOn_112, e_X4_goOn_115, e_X4_goOn_116, e_X4_goOn_119, e_X4_goOn_120, e_X4_goOn_121, e_X4_goOn_124, e_X4_goOn_125, e_X4_goOn_128, e_X4_goOn_131, e_X4_goOn_132, e_X4_goOn_133, e_X4_goOn_136, e_X4_goOn_139, e_X4_goOn_140, e_X4_goOn_143, e_X4_goOn_144, e_X4_goOn_145, e_X4_goOn_146, e_X4_goOn_147, e_X4_goOn_150, e_X4_goOn_151, e_X4_goOn_152, e_X4_goOn_153, e_X4_goOn_156, e_X4_goOn_157, e_X4_goOn_158, Option.getD_some, Option.bind_some, Option.toList_some, Option.toList_none, List.cons_append, List.nil_append]
      rfl
    · rw [Option.some.injEq] at hs
      subst hs
      refine ⟨CB_17 (CB_17 (hBf _ _ (by omega)) ha (by decide)) ha (by decide), rt_up_eq, ?_⟩
      rw [rt_up_n2 (by decide), rt_up_eq, g4]
      rfl
  · rw [if_neg g4]
    have stn : (if nI c = nI 17 then Ev mX4_begin 81 [.ref 17, .int (nI c)] [] (71 + e, rt_up I 17 4 (nI c), L, R) else if nI c = nI 18 then Ev mX4_begin 74 [.ref 17, .int (nI c)] [] (71 + e, rt_up I 17 4 (nI c), L, R) else Ev mX4_begin 81 [.ref 17, .int (nI c)] [] (71 + e, rt_up I 17 4 (nI c), L, R)) = Ev mX4_begin 81 [.ref 17, .int (nI c)] [] (71 + e, rt_up I 17 4 (nI c), L, R) := by
      rw [if_neg (ne 18 (by decide) g4)]
      split <;> rfl
    rw [stn]
    refine ⟨rt_up I 17 4 (nI c), ?_, FrG_up FrG_rf (by decide) (by decide) (by decide), fun s hs => by cases hs⟩
    simp (disch := first | exact rt_bo_0 | exact rt_bo_1 | exact ns_float | exact ns_int | exact ns_ref | assumption | omega | (simp (disch := omega) only [ob_17, rg_17_0 hR, rg_17_1 hR, rg_17_2 hR, ar_26, ln_26, rt_in_nI, Option.isSome_some, Option.getD_some, Bool.or_true, Bool.true_or]; done) | fail) only [e_X4_begin_1, e_X4_begin_2, e_X4_begin_5, e_X4_begin_52, e_X4_begin_53, e_X4_begin_54, e_X4_begin_57, e_X4_begin_58, e_X4_begin_59, e_X4_begin_60, e_X4_begin_62, e_X4_begin_65, e_X4_begin_66, e_X4_begin_67, e_X4_begin_68, e_X4_begin_69, e_X4_begin_70, e_X4_begin_73, e_X4_begin_74, e_X4_begin_75, e_X4_begin_76, e_X4_begin_79, e_X4_begin_80, e_X4_begin_81, e_X4_begin_82, e_X4_goOn_1, e_X4_goOn_48, e_X4_goOn_49, e_X4_goOn_50, e_X4_goOn_53, e_X4_goOn_54, e_X4_goOn_55, e_X4_goOn_57, e_X4_goOn_60, e_X4_goOn_61, e_X4_goOn_63, e_X4_goOn_64, e_X4_goOn_67, e_X4_goOn_70, e_X4_goOn_71, e_X4_goOn_74, e_X4_goOn_75, e_X4_goOn_76, e_X4_goOn_77, e_X4_goOn_79, e_X4_goOn_82, e_X4_goOn_83, e_X4_goOn_85, e_X4_goOn_86, e_X4_goOn_89, e_X4_goOn_92, e_X4_goOn_93, e_X4_goOn_96, e_X4_goOn_97, e_X4_goOn_98, e_X4_goOn_99, e_X4_goOn_100, e_X4_goOn_103, e_X4_goOn_104, e_X4_goOn_105, e_X4_goOn_106, e_X4_goOn_108, e_X4_goOn_111, e_X4_goOn_112, e_X4_goOn_115, e_X4_goOn_116, e_X4_goOn_119, e_X4_goOn_120, e_X4_goOn_121, e_X4_goOn_124, e_X4_goOn_125, e_X4_goOn_128, e_X4_goOn_131, e_X4_goOn_132, e_X4_goOn_133, e_X4_goOn_136, e_X4_goOn_139, e_X4_goOn_140, e_X4_goOn_143, e_X4_goOn_144, e_X4_goOn_145, e_X4_goOn_146, e_X4_goOn_147, e_X4_goOn_150, e_X4_goOn_151, e_X4_goOn_152, e_X4_goOn_153, e_X4_goOn_156, e_X4_goOn_157, e_X4_goOn_158, Option.getD_some, Option.bind_some, Option.toList_some, Option.toList_none, List.cons_append, List.nil_append]
    rfl
end P67

section P69
variable {e : Nat} {I I2 : Nat → Nat → Int32} {L : Nat → Nat → Int64} {R R2 : Nat → Nat → Option Nat} {a b a2 b2 O P k i c n N p en j nw md fm kd md2 f : Nat} {K Rl d t : Nat → Nat} {Lk : Nat → Nat → Bool} {Nn : Nat → Option Nat} {W : List (Nat → Nat)} {dn has pl : Bool} {s s2 s3 : PsT} {x v : Int32} {w : Option Nat} {wl : Nat → List Nat} {u : Value}
/-- a saying that was heard to its end -/
def SE (nw : Nat) : PsT → Prop
  | ((md, fm, dn), ((P, O), K, Lk, N, Rl), W) => SW nw ((md, fm, dn), ((P, O), K, Lk, N, Rl), W) ∧ (md = 6 ∨ md = 7) ∧ (md = 6 → fm = 0 ∨ fm = 3 → ∀ d, d ∈ W → syO d O 0 = false)
theorem sEnd_SE (h : SW nw s) (hs : sEnd s = some s3) : SE nw s3 ∧ s3.1.2.1 = s.1.2.1 := by
  obtain ⟨⟨md, fm, dn⟩, ⟨⟨P, O⟩, K, Lk, Nn, Rl⟩, W⟩ := s
  unfold sEnd at hs
  dsimp only at hs
  by_cases g1 : md = 6 ∧ (fm = 0 ∨ fm = 3)
  · rw [if_pos g1] at hs
    by_cases g2 : 0 < (syF true O W).length
    · rw [if_pos g2, Option.some.injEq] at hs
      subst hs
      obtain ⟨a1, a2, a3, a4, e1, e2, e3, e4, e5⟩ := h
      refine ⟨⟨⟨a1, a2, a3, a4, g2, fun d hd => e2 d (syF_mem hd).1, Nat.le_trans sum_filter e3, fun g d hd => e4 g d (syF_mem hd).1, fun g d hd => e5 g d (syF_mem hd).1⟩, Or.inl g1.1, fun _ _ d hd => ?_⟩, rfl⟩
      have := (syF_mem hd).2
      simpa using this
    · rw [if_neg g2] at hs; cases hs
  · rw [if_neg g1] at hs
    by_cases g2 : md = 6 ∨ md = 7
    · rw [if_pos g2, Option.some.injEq] at hs
      subst hs
      exact ⟨⟨h, g2, fun h6 hf => absurd ⟨h6, hf⟩ g1⟩, rfl⟩
    · rw [if_neg g2] at hs; cases hs
theorem sWord_SW (hS : SW nw s) (hw : ∀ c, w = some c → c < 29 + nw) (hs : sWord w s = .inr s2) : SW nw s2 ∧ (s2.1.2.1 = 6 → s.1.2.1 = 6) := by
  unfold sWord at hs
  split at hs
  · cases hs
  · rename_i c
    split at hs
    · cases hs
    · rename_i g4
      split at hs
      · cases hs
      · rename_i s4 hs4
        cases hs
        exact ⟨SW_step hS (hw _ rfl) (fun h1 h2 => by
          by_cases h6 : 6 ≤ s.2.1.1.2
          · exact absurd ⟨⟨h1, h2⟩, h6⟩ g4
          · omega) hs4, sStep_fm hs4⟩
theorem sFin_SE (h : SW nw s) (hs : sFin n s = .inr s3) : SE nw s3 ∧ (s3.1.2.1 = 6 → s.1.2.1 = 6) := by
  unfold sFin at hs
  split at hs
  · cases hs
  · rename_i s4 hs4
    cases hs
    obtain ⟨h1, h2⟩ := sEnd_SE h hs4
    exact ⟨h1, fun g => by rw [← h2]; exact g⟩
theorem prs_SE : ∀ f p s, SW nw s → prs wl nw t n f p s = .inr s3 → SE nw s3 ∧ (s3.1.2.1 = 6 → s.1.2.1 = 6) := by
  intro f
  induction f with
  | zero => intro p s _ h; cases h
  | succ f ih =>
    intro p s hS h
    rw [prs_s] at h
    by_cases hw : wok t n p = true
    · rw [if_pos hw] at h
      cases hs : sWord (fnd wl nw (txt t p (lend t n p))) s with
      | inl w => rw [hs] at h; cases h
      | inr s2 =>
        rw [hs] at h
        obtain ⟨h1, h2⟩ := sWord_SW hS (fun c hc => fnd_lt hc) hs
        dsimp only at h
        unfold pct at h
        by_cases g1 : lend t n p + 1 = n
        · rw [if_pos g1] at h; cases h
        · rw [if_neg g1] at h
          by_cases g2 : lend t n p = n
          · rw [if_pos g2] at h
            obtain ⟨k1, k2⟩ := sFin_SE h1 h
            exact ⟨k1, fun g => h2 (k2 g)⟩
          · rw [if_neg g2] at h
            obtain ⟨k1, k2⟩ := ih _ _ h1 h
            exact ⟨k1, fun g => h2 (k2 g)⟩
    · rw [if_neg hw] at h; cases h
theorem pct_SE (hS : SW nw s) (h : pct wl nw t n f en s = .inr s3) : SE nw s3 ∧ (s3.1.2.1 = 6 → s.1.2.1 = 6) := by
  unfold pct at h
  by_cases g1 : en + 1 = n
  · rw [if_pos g1] at h; cases h
  · rw [if_neg g1] at h
    by_cases g2 : en = n
    · rw [if_pos g2] at h
      exact sFin_SE hS h
    · rw [if_neg g2] at h
      exact prs_SE _ _ _ hS h
theorem sWord1_SW {isW : Bool} {len : Nat} (hs : sWord1 w isW len = .inr s2) : SW nw s2 := by
  unfold sWord1 at hs
  split at hs
  · split at hs
    · cases hs
      exact SW_init (by omega) (by omega) (by omega) (by omega) (by omega) (by omega)
    · cases hs
  · split at hs
    · cases hs
    · split at hs
      · cases hs
      · rename_i s4 hs4
        cases hs
        exact SW_first hs4
theorem pall_SE (h : pall wl nw t n = .inr s3) : SE nw s3 ∧ ∃ s2, sWord1 (fnd wl nw (txt t 0 (lend t n 0))) (mst t n (lend t n 0 + 1)) (lend t n 0) = .inr s2 ∧ (s3.1.2.1 = 6 → s2.1.2.1 = 6) := by
  unfold pall at h
  by_cases hw : wok t n 0 = true
  · rw [if_pos hw] at h
    cases hs : sWord1 (fnd wl nw (txt t 0 (lend t n 0))) (mst t n (lend t n 0 + 1)) (lend t n 0) with
    | inl w => rw [hs] at h; cases h
    | inr s2 =>
      rw [hs] at h
      obtain ⟨h1, h2⟩ := pct_SE (sWord1_SW hs) h
      exact ⟨h1, s2, rfl, h2⟩
  · rw [if_neg hw] at h; cases h
theorem x_restart (hR : RG R a b) (ha : a = 24 ∨ a = 25) : ∃ I1, Ev mX4_restart 0 [.ref 17] [] (71 + e, I, L, R) = some (none, (71 + e, I1, L, R)) ∧ (∀ c, c < 17 ∨ 25 < c → I1 c = I c) ∧ CB I1 a (sInit 0 0) ∧ I1 17 5 = 0 ∧ I1 17 4 = -1 := by
  obtain ⟨a1, a2⟩ := ab_ar (e := e) ha
  refine ⟨rt_up (rt_up (rt_up (rt_up (rt_up (rt_up (rt_up (rt_up (rt_up (rt_up (rt_up I 18 4 0) 18 5 0) a 0 0) 23 2 1) 23 3 0) 17 3 0) 17 4 (-1)) 17 5 0) 17 6 0) 17 7 0) 17 8 0, ?_, fun c hc => ?_, ⟨⟨?_, ?_, rt_up_eq⟩, ⟨?_, ?_, fun k hk => absurd hk (by omega), fun i hi => absurd hi (by omega)⟩, ⟨?_, ?_, fun r d hd => ?_⟩⟩, ?_, ?_⟩
  · simp (disch := first | exact rt_bo_0 | exact rt_bo_1 | exact ns_float | exact ns_int | exact ns_ref | assumption | omega | (simp (disch := omega) only [ob_17, rg_17_0 hR, rg_17_1 hR, rg_17_2 hR, ar_26, ln_26, ob_18, rg_18_0 hR, ar_19, ln_19, rg_18_1 hR, ar_20, ln_20, rg_18_2 hR, ar_21, ln_21, rg_18_3 hR, ar_22, ln_22, ob_23, rg_23_0 hR, rg_23_1 hR, a1, a2, rt_in_0, rt_in_nI, Option.isSome_some, Option.getD_some, Bool.or_true, Bool.true_or]; done) | fail) only [e_X4_restart_0, e_X4_restart_1, e_X4_restart_4, e_X4_restart_7, e_X4_restart_8, e_X4_restart_11, e_X4_restart_14, e_X4_restart_15, e_X4_restart_16, e_X4_restart_19, e_X4_restart_20, e_X4_restart_21, e_X4_restart_24, e_X4_restart_25, e_X4_restart_26, e_X4_restart_29, e_X4_restart_30, e_X4_restart_31, e_X4_restart_34, e_X4_restart_35, e_X4_restart_36, e_X4_restart_39, e_X4_restart_40, e_X4_restart_41, e_X4_restart_44, e_X1_clear_0, e_X1_clear_1, e_X1_clear_2, e_X1_clear_5, e_X1_clear_6, e_X1_clear_7, e_X1_clear_10, e_X2_restart_0, e_X2_restart_1, e_X2_restart_4, e_X2_restart_5, e_X2_restart_6, e_X2_restart_7, e_X2_restart_8, e_X2_restart_9, e_X2_restart_12, e_X2_restart_13, e_X2_restart_14, e_X2_restart_17, rg_17_0 hR, rg_17_1 hR, rg_23_0 hR, cl_0, Option.getD_some, Option.bind_some, Option.toList_some, Option.toList_none, List.cons_append, List.nil_append]
  · rw [rt_up_f (by omega), rt_up_f (by omega), rt_up_f (by omega), rt_up_f (by omega), rt_up_f (by omega), rt_up_f (by omega), rt_up_f (by omega), rt_up_f (by omega), rt_up_f (by omega), rt_up_f (by omega), rt_up_f (by omega)]
  · rw [rt_up_n2 (by decide), rt_up_n2 (by decide), rt_up_eq]; rfl
  · rw [rt_up_n2 (by decide), rt_up_eq]; rfl
  · simp (disch := omega) only [rt_up_n1]
    rw [rt_up_n2 (by decide), rt_up_eq]; rfl
  · simp (disch := omega) only [rt_up_n1]
    rw [rt_up_eq]; rfl
  · simp (disch := omega) only [rt_up_n1]
    rw [rt_up_n2 (by decide), rt_up_eq]; rfl
  · simp (disch := omega) only [rt_up_n1]
    rw [rt_up_eq]; rfl
  · simp (disch := omega) only [rt_up_n1]
    cases r with
    | zero =>
      rw [rt_up_eq]
      show (0 : Int32) = nI (0 * 16 ^ (6 - 0))
      rw [Nat.zero_mul]; rfl
    | succ r =>
      change ([fun _ => 0] : List (Nat → Nat))[r + 1]? = some d at hd
      rw [List.getElem?_cons_succ, List.getElem?_nil] at hd
      cases hd
  · rw [rt_up_n2 (by decide), rt_up_n2 (by decide), rt_up_n2 (by decide), rt_up_eq]
  · rw [rt_up_n2 (by decide), rt_up_n2 (by decide), rt_up_n2 (by decide), rt_up_n2 (by decide), rt_up_eq]
theorem x_hear (hR : RG R a b) (ha : a = 24 ∨ a = 25) (hb : b = 24 ∨ b = 25) (hab : a ≠ b) (hT : TX I N t) (hW : WX I nw wl) (hn0 : 0 < n) (hn : n ≤ N) : ∃ I2 R2 a2 b2, Ev mX4_hear 0 [.ref 17, .ref 7, .int (nI n), .ref 9, .float 0, .float 0, .float 0] [] (71 + e, I, L, R) = some (some (.int (vof (pall wl nw t n))), (71 + e, I2, L, R2)) ∧ (∀ c, c < 17 ∨ 26 < c → I2 c = I c) ∧ RG R2 a2 b2 ∧ (∀ c, c ≠ 23 → R2 c = R c) ∧ ((a2 = a ∧ b2 = b) ∨ (a2 = b ∧ b2 = a)) ∧ (∀ v, pall wl nw t n = .inl v → I2 17 8 = 0) ∧ (∀ s3, pall wl nw t n = .inr s3 → ∃ I1, I2 = rt_up I1 17 8 1 ∧ CX I1 a2 s3 ∧ (s3.1.2.1 = 6 → XW I1 t (lend t n 0) ∧ 2 ≤ lend t n 0 ∧ lend t n 0 ≤ 10)) := by
  obtain ⟨IA, r1, r2, r3, r4, r5⟩ := x_restart (e := e) (I := I) (L := L) hR ha
  have hTA := TX_fr hT (fun c hc => r2 c (by omega))
  have hWA := WX_fr hW (fun c hc => r2 c (by omega))
  have hN := hT.1
  have hpre := x_hear_pre (e := e) (L := L) (u := .float 0) hR hTA hn hn0
  obtain ⟨l1, l2, l3, l4⟩ := lend_all (t := t) (n := n) (p := 0) (by omega)
  rw [nI_0] at hpre
  have st0 : Ev mX4_hear 0 [.ref 17, .ref 7, .int (nI n), .ref 9, .float 0, .float 0, .float 0] [] (71 + e, I, L, R) = Ev mX4_hear 10 [.ref 17, .ref 7, .int (nI n), .ref 9, .int 0, .int 0, .float 0] [] (71 + e, IA, L, R) := by
    simp (disch := first | exact rt_bo_0 | exact rt_bo_1 | exact ns_float | exact ns_int | exact ns_ref | assumption | omega | (simp (disch := omega) only [ob_17, rg_17_0 hR, rg_17_1 hR, rg_17_2 hR, ar_26, ln_26, rt_in_nI, Option.isSome_some, Option.getD_some, Bool.or_true, Bool.true_or]; done) | fail) only [e_X4_hear_0, e_X4_hear_1, e_X4_hear_4, e_X4_hear_5, e_X4_hear_7, e_X4_hear_8, e_X4_hear_12, e_X4_hear_13, e_X4_hear_16, e_X4_hear_18, e_X4_hear_19, e_X4_hear_22, e_X4_hear_23, e_X4_hear_25, e_X4_hear_28, e_X4_hear_31, e_X4_hear_34, e_X4_hear_36, e_X4_hear_37, e_X4_hear_40, e_X4_hear_41, e_X4_hear_43, e_X4_hear_45, e_X4_hear_48, e_X4_hear_51, e_X4_hear_52, e_X4_hear_54, e_X4_hear_57, e_X4_hear_58, e_X4_hear_59, e_X4_hear_60, e_X4_hear_62, e_X4_hear_64, e_X4_hear_65, e_X4_hear_66, e_X4_hear_69, e_X4_hear_71, e_X4_hear_73, e_X4_hear_76, e_X4_hear_78, e_X4_hear_80, e_X4_hear_83, e_X4_hear_84, e_X4_hear_86, e_X4_hear_87, e_X4_hear_88, e_X4_hear_89, e_X4_hear_92, e_X4_hear_93, e_X4_hear_95, e_X4_hear_98, e_X4_hear_99, e_X4_hear_101, e_X4_hear_102, e_X4_hear_103, e_X4_hear_105, e_X4_hear_108, e_X4_hear_111, e_X4_hear_112, e_X4_hear_115, e_X4_hear_118, e_X4_hear_119, e_X4_hear_120, e_X4_hear_123, e_X4_hear_124, e_X4_hear_125, e_X4_hear_126, e_X4_hear_129, e_X4_hear_130, e_X4_hear_133, e_X4_hear_136, r1, Option.getD_some, Option.bind_some, Option.toList_some, Option.toList_none, List.cons_append, List.nil_append]
  rw [st0, hpre]
  have hall : pall wl nw t n = if wok t n 0 = true then (match sWord1 (fnd wl nw (txt t 0 (lend t n 0))) (mst t n (lend t n 0 + 1)) (lend t n 0) with
    | .inl w => .inl (flt w 0)
    | .inr s2 => pct wl nw t n n (lend t n 0) s2) else .inl (flt 5 (lend t n 0)) := rfl
  by_cases hw : wok t n 0 = true
  · rw [if_pos hw]
    rw [if_pos hw] at hall
    have hlp : 0 < lend t n 0 := by
      unfold wok at hw
      rw [Bool.and_eq_true] at hw
      exact lend_yes hn0 hw.1
    obtain ⟨IB, k1, k2, k3, k4⟩ := x_hw1 (e := e) (L := L) (wl := wl) (n := n) hR ha r3 r4 r5 hTA hWA l2 hn
    rw [nI_0] at k1
    have hfr : ∀ c, c < 17 ∨ 26 < c → IB c = I c := fun c hc => by rw [k2 c hc, r2 c (by omega)]
    cases hs : sWord1 (fnd wl nw (txt t 0 (lend t n 0))) (mst t n (lend t n 0 + 1)) (lend t n 0) with
    | inl w =>
      rw [hs] at k1 hall
      dsimp only at hall
      have hw0 : (nI w = 0) = False := by
        have : w = 2 ∨ w = 3 ∨ w = 1 := by
          unfold sWord1 at hs
          split at hs
          · split at hs
            · cases hs
            · cases hs; omega
          · split at hs
            · cases hs; omega
            · split at hs
              · cases hs; omega
              · cases hs
        exact eq_false (nI_ne0 (by omega) (by omega))
      rw [hall]
      refine ⟨IB, R, a, b, ?_, hfr, hR, fun _ _ => rfl, Or.inl ⟨rfl, rfl⟩, fun _ _ => k3, fun s3 h => by cases h⟩
      have xf := x_fault (p := 0) (w := w) (h := (71 + e, IB, L, R))
      rw [nI_0] at xf
      rw [e_X4_hear_58]
      simp (disch := first | exact rt_bo_0 | exact rt_bo_1 | exact ns_float | exact ns_int | exact ns_ref | assumption | omega | (simp (disch := omega) only [ob_17, rg_17_0 hR, rg_17_1 hR, rg_17_2 hR, ar_26, ln_26, ob_7, rg_7_0 hR, ar_8, ln_8, ob_9, rg_9_0 hR, ar_10, ln_10, rg_9_1 hR, ar_11, ln_11, rg_9_2 hR, ar_12, ln_12, rg_9_3 hR, ar_13, ln_13, rg_9_4 hR, ar_14, ln_14, rt_in_nI, Option.isSome_some, Option.getD_some, Bool.or_true, Bool.true_or]; done) | fail) only [e_X4_hear_0, e_X4_hear_1, e_X4_hear_4, e_X4_hear_5, e_X4_hear_7, e_X4_hear_8, e_X4_hear_12, e_X4_hear_13, e_X4_hear_16, e_X4_hear_18, e_X4_hear_19, e_X4_hear_22, e_X4_hear_23, e_X4_hear_25, e_X4_hear_28, e_X4_hear_31, e_X4_hear_34, e_X4_hear_36, e_X4_hear_37, e_X4_hear_40, e_X4_hear_41, e_X4_hear_43, e_X4_hear_45, e_X4_hear_48, e_X4_hear_51, e_X4_hear_52, e_X4_hear_54, e_X4_hear_57, e_X4_hear_59, e_X4_hear_60, e_X4_hear_62, e_X4_hear_64, e_X4_hear_65, e_X4_hear_66, e_X4_hear_69, e_X4_hear_71, e_X4_hear_73, e_X4_hear_76, e_X4_hear_78, e_X4_hear_80, e_X4_hear_83, e_X4_hear_86, e_X4_hear_87, e_X4_hear_88, e_X4_hear_89, e_X4_hear_92, e_X4_hear_93, e_X4_hear_95, e_X4_hear_98, e_X4_hear_99, e_X4_hear_101, e_X4_hear_102, e_X4_hear_103, e_X4_hear_105, e_X4_hear_108, e_X4_hear_112, e_X4_hear_115, e_X4_hear_118, e_X4_hear_119, e_X4_hear_120, e_X4_hear_123, e_X4_hear_124, e_X4_hear_125, e_X4_hear_126, e_X4_hear_129, e_X4_hear_130, e_X4_hear_133, e_X4_hear_136, k1, fN, hw0, xf, if_false, Option.getD_some, Option.bind_some, Option.toList_some, Option.toList_none, List.cons_append, List.nil_append]
      rfl
    | inr s2 =>
      rw [hs] at k1 hall
      dsimp only at hall
      obtain ⟨hX2, hXW⟩ := k4 s2 hs
      have hS2 : SW nw s2 := sWord1_SW hs
      have hTB := TX_fr hT (fun c hc => hfr c (by omega))
      have hWB := WX_fr hW (fun c hc => hfr c (by omega))
      have hc := x_cont (e := e) (L := L) (f := n) (wl := wl) (t := t) (v := .int 0) hR ha hX2 hS2 (show n ≤ 200 by omega) l2 hlp (fun g => x_hear_l hn hN n (lend t n 0 + 1) s2 IB R a b (.int 0) (by omega) (by omega) (by omega) hR ha hb hab hX2 hS2 hTB hWB ns_int) ns_int
      have stA : Ev mX4_hear 58 [.ref 17, .ref 7, .int (nI n), .ref 9, .int 0, .int (nI (lend t n 0)), .float 0] [] (71 + e, IA, L, R) = Ev mX4_hear 84 [.ref 17, .ref 7, .int (nI n), .ref 9, .int 0, .int (nI (lend t n 0)), .int 0] [] (71 + e, IB, L, R) := by
        rw [e_X4_hear_58]
        simp (disch := first | exact rt_bo_0 | exact rt_bo_1 | exact ns_float | exact ns_int | exact ns_ref | assumption | omega | (simp (disch := omega) only [ob_17, rg_17_0 hR, rg_17_1 hR, rg_17_2 hR, ar_26, ln_26, ob_7, rg_7_0 hR, ar_8, ln_8, ob_9, rg_9_0 hR, ar_10, ln_10, rg_9_1 hR, ar_11, ln_11, rg_9_2 hR, ar_12, ln_12, rg_9_3 hR, ar_13, ln_13, rg_9_4 hR, ar_14, ln_14, rt_in_nI, Option.isSome_some, Option.getD_some, Bool.or_true, Bool.true_or]; done) | fail) only [e_X4_hear_0, e_X4_hear_1, e_X4_hear_4, e_X4_hear_5, e_X4_hear_7, e_X4_hear_8, e_X4_hear_12, e_X4_hear_13, e_X4_hear_16, e_X4_hear_18, e_X4_hear_19, e_X4_hear_22, e_X4_hear_23, e_X4_hear_25, e_X4_hear_28, e_X4_hear_31, e_X4_hear_34, e_X4_hear_36, e_X4_hear_37, e_X4_hear_40, e_X4_hear_41, e_X4_hear_43, e_X4_hear_45, e_X4_hear_48, e_X4_hear_51, e_X4_hear_52, e_X4_hear_54, e_X4_hear_57, e_X4_hear_59, e_X4_hear_60, e_X4_hear_62, e_X4_hear_64, e_X4_hear_65, e_X4_hear_66, e_X4_hear_69, e_X4_hear_71, e_X4_hear_73, e_X4_hear_76, e_X4_hear_78, e_X4_hear_80, e_X4_hear_83, e_X4_hear_86, e_X4_hear_87, e_X4_hear_88, e_X4_hear_89, e_X4_hear_92, e_X4_hear_93, e_X4_hear_95, e_X4_hear_98, e_X4_hear_99, e_X4_hear_101, e_X4_hear_102, e_X4_hear_103, e_X4_hear_105, e_X4_hear_108, e_X4_hear_112, e_X4_hear_115, e_X4_hear_118, e_X4_hear_119, e_X4_hear_120, e_X4_hear_123, e_X4_hear_124, e_X4_hear_125, e_X4_hear_126, e_X4_hear_129, e_X4_hear_130, e_X4_hear_133, e_X4_hear_136, k1, fN, nI_0, q_00, if_true, Option.getD_some, Option.bind_some, Option.toList_some, Option.toList_none, List.cons_append, List.nil_append]
      rw [stA, hall]
      obtain ⟨I2, R2, a2, b2, c1, c2, c3, c4, c5, c6, c7⟩ := hc
      refine ⟨I2, R2, a2, b2, c1, fun c hc => by rw [c2.1 c (by omega), hfr c hc], c3, c4, c5, c6, fun s3 h3 => ?_⟩
      obtain ⟨I1, i1, i2⟩ := c7 s3 h3
      refine ⟨I1, i1, i2, fun h6 => ?_⟩
      obtain ⟨⟨w1, w2⟩, w3⟩ := hXW ((pct_SE hS2 h3).2 h6)
      have f26 : I1 26 = IB 26 := by rw [← c2.1 26 (by omega), i1, rt_up_f (by decide)]
      have f17 : I1 17 3 = IB 17 3 := by rw [← c2.2, i1, rt_up_n2 (by decide)]
      exact ⟨⟨by rw [f17]; exact w1, fun j hj => by rw [f26]; exact w2 j hj⟩, w3⟩
  · rw [if_neg hw]
    rw [if_neg hw] at hall
    rw [hall]
    exact ⟨IA, R, a, b, rfl, fun c hc => r2 c (by omega), hR, fun _ _ => rfl, Or.inl ⟨rfl, rfl⟩, fun _ _ => CB_80 r3, fun s3 h => by cases h⟩
theorem x_say (hR : RG R a b) (hR2 : RG R2 a2 b2) (h1 : 0 < n) (h2 : n ≤ 100) (hl : I 7 1 = nI N) (hN : N ≤ 200) (h3 : n ≤ N) (hE : Ev mX4_hear 0 [.ref 17, .ref 7, .int (nI n), .ref 9, .float 0, .float 0, .float 0] [] (71 + e, I, L, R) = some (some (.int v), (71 + e, I2, L, R2))) : Ev mX9_say 0 [.ref 0, .int (nI n), .float 0] [] (71 + e, I, L, R) = some (some (.int v), (71 + e, rt_up I2 7 1 0, L, R2)) := by
  have q1 : (1 : Int32) = nI 1 := rfl
  have q100 : (100 : Int32) = nI 100 := rfl
  have c1 : ¬ n < 1 := by omega
  have c2 : ¬ 100 < n := by omega
  simp (disch := first | exact rt_bo_0 | exact rt_bo_1 | exact ns_float | exact ns_int | exact ns_ref | assumption | omega | (simp (disch := omega) only [ob_0, rg_0_0 hR, rg_0_1 hR, rg_0_2 hR, rg_0_3 hR, rg_0_4 hR, rg_0_5 hR, rg_0_6 hR, ob_7, rg_7_0 hR, ar_8, ln_8, ob_17, rg_17_0 hR, rg_17_1 hR, rg_17_2 hR, ar_26, ln_26, ob_9, rg_9_0 hR, ar_10, ln_10, rg_9_1 hR, ar_11, ln_11, rg_9_2 hR, ar_12, ln_12, rg_9_3 hR, ar_13, ln_13, rg_9_4 hR, ar_14, ln_14, rg_0_1 hR2, rt_in_nI, Option.isSome_some, Option.getD_some, Bool.or_true, Bool.true_or]; done) | fail) only [e_X9_say_0, e_X9_say_1, e_X9_say_2, e_X9_say_5, e_X9_say_6, e_X9_say_8, e_X9_say_11, e_X9_say_12, e_X9_say_13, e_X9_say_16, e_X9_say_19, e_X9_say_22, e_X9_say_23, e_X9_say_24, e_X9_say_25, e_X9_say_28, e_X9_say_29, e_X9_say_32, e_X9_say_33, e_X9_say_34, e_X9_say_37, e_X9_say_40, e_X9_say_41, e_X9_say_42, e_X9_say_45, e_X9_say_48, e_X9_say_49, e_X7_length_0, e_X7_length_1, e_X7_length_4, e_X7_empty_0, e_X7_empty_1, e_X7_empty_2, e_X7_empty_5, rg_0_1 hR, rg_0_2 hR, rg_0_4 hR, rg_0_1 hR2, q1, q100, q_lt, q_le, c1, c2, hl, h3, hE, if_true, if_false, Option.getD_some, Option.bind_some, Option.toList_some, Option.toList_none, List.cons_append, List.nil_append]
theorem x_say_no (hR : RG R a b) (hl : I 7 1 = nI N) (hN : N ≤ 200) (hx : x < 1 ∨ 100 < x ∨ ¬ x ≤ nI N) : Ev mX9_say 0 [.ref 0, .int x, .float 0] [] (71 + e, I, L, R) = some (some (.int (-1)), (71 + e, I, L, R)) := by
  by_cases c1 : x < 1
  · simp (disch := first | exact rt_bo_0 | exact rt_bo_1 | exact ns_float | exact ns_int | exact ns_ref | assumption | omega | (simp (disch := omega) only [ob_0, rg_0_0 hR, rg_0_1 hR, rg_0_2 hR, rg_0_3 hR, rg_0_4 hR, rg_0_5 hR, rg_0_6 hR, ob_7, rg_7_0 hR, ar_8, ln_8, ob_17, rg_17_0 hR, rg_17_1 hR, rg_17_2 hR, ar_26, ln_26, rt_in_nI, Option.isSome_some, Option.getD_some, Bool.or_true, Bool.true_or]; done) | fail) only [e_X9_say_0, e_X9_say_1, e_X9_say_2, e_X9_say_5, e_X9_say_6, e_X9_say_8, e_X9_say_11, e_X9_say_12, e_X9_say_13, e_X9_say_16, e_X9_say_19, e_X9_say_22, e_X9_say_23, e_X9_say_24, e_X9_say_25, e_X9_say_28, e_X9_say_29, e_X9_say_32, e_X9_say_33, e_X9_say_34, e_X9_say_37, e_X9_say_40, e_X9_say_41, e_X9_say_42, e_X9_say_45, e_X9_say_48, e_X9_say_49, c1, if_true, Option.getD_some, Option.bind_some, Option.toList_some, Option.toList_none, List.cons_append, List.nil_append]
  · by_cases c2 : 100 < x
    · simp (disch := first | exact rt_bo_0 | exact rt_bo_1 | exact ns_float | exact ns_int | exact ns_ref | assumption | omega | (simp (disch := omega) only [ob_0, rg_0_0 hR, rg_0_1 hR, rg_0_2 hR, rg_0_3 hR, rg_0_4 hR, rg_0_5 hR, rg_0_6 hR, ob_7, rg_7_0 hR, ar_8, ln_8, ob_17, rg_17_0 hR, rg_17_1 hR, rg_17_2 hR, ar_26, ln_26, rt_in_nI, Option.isSome_some, Option.getD_some, Bool.or_true, Bool.true_or]; done) | fail) only [e_X9_say_0, e_X9_say_1, e_X9_say_2, e_X9_say_5, e_X9_say_6, e_X9_say_8, e_X9_say_11, e_X9_say_12, e_X9_say_13, e_X9_say_16, e_X9_say_19, e_X9_say_22, e_X9_say_23, e_X9_say_24, e_X9_say_25, e_X9_say_28, e_X9_say_29, e_X9_say_32, e_X9_say_33, e_X9_say_34, e_X9_say_37, e_X9_say_40, e_X9_say_41, e_X9_say_42, e_X9_say_45, e_X9_say_48, e_X9_say_49, c1, c2, if_true, if_false, Option.getD_some, Option.bind_some, Option.toList_some, Option.toList_none, List.cons_append, List.nil_append]
    · have c3 : ¬ x ≤ nI N := by rcases hx with h | h | h; exact absurd h c1; exact absurd h c2; exact h
      simp (disch := first | exact rt_bo_0 | exact rt_bo_1 | exact ns_float | exact ns_int | exact ns_ref | assumption | omega | (simp (disch := omega) only [ob_0, rg_0_0 hR, rg_0_1 hR, rg_0_2 hR, rg_0_3 hR, rg_0_4 hR, rg_0_5 hR, rg_0_6 hR, ob_7, rg_7_0 hR, ar_8, ln_8, ob_17, rg_17_0 hR, rg_17_1 hR, rg_17_2 hR, ar_26, ln_26, rt_in_nI, Option.isSome_some, Option.getD_some, Bool.or_true, Bool.true_or]; done) | fail) only [e_X9_say_0, e_X9_say_1, e_X9_say_2, e_X9_say_5, e_X9_say_6, e_X9_say_8, e_X9_say_11, e_X9_say_12, e_X9_say_13, e_X9_say_16, e_X9_say_19, e_X9_say_22, e_X9_say_23, e_X9_say_24, e_X9_say_25, e_X9_say_28, e_X9_say_29, e_X9_say_32, e_X9_say_33, e_X9_say_34, e_X9_say_37, e_X9_say_40, e_X9_say_41, e_X9_say_42, e_X9_say_45, e_X9_say_48, e_X9_say_49, e_X7_length_0, e_X7_length_1, e_X7_length_4, rg_0_1 hR, hl, c1, c2, c3, if_true, if_false, Option.getD_some, Option.bind_some, Option.toList_some, Option.toList_none, List.cons_append, List.nil_append]
end P69

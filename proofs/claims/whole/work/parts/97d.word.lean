section P57
variable {e : Nat} {I : Nat → Nat → Int32} {L : Nat → Nat → Int64} {R : Nat → Nat → Option Nat} {a b T j n k s en nw : Nat} {x : Int32} {t : Nat → Nat} {ws : List Nat} {wl : Nat → List Nat}
/-- the text from s to en -/
def txt (t : Nat → Nat) (s en : Nat) : List Nat := (List.range (en - s)).map (fun i => t (s + i))
theorem txt_len : (txt t s en).length = en - s := by unfold txt; rw [List.length_map, List.length_range]
theorem txt_get : (txt t s en)[j]? = if j < en - s then some (t (s + j)) else none := by
  unfold txt
  rw [List.getElem?_map]
  by_cases h : j < en - s
  · rw [if_pos h, List.getElem?_range h]; rfl
  · rw [if_neg h, List.getElem?_eq_none (by rw [List.length_range]; omega)]; rfl
theorem pfx_snoc {u : List Nat} {c : Nat} : (u ++ [c]).isPrefixOf ws = (u.isPrefixOf ws && decide (ws[u.length]? = some c)) := by
  induction u generalizing ws with
  | nil =>
    cases ws with
    | nil => simp [List.isPrefixOf]
    | cons d r =>
      simp only [List.nil_append, List.isPrefixOf, Bool.and_true, Bool.true_and, List.length_nil, List.getElem?_cons_zero, Option.some.injEq]
      by_cases h : c = d
      · subst h; simp
      · rw [decide_eq_false (fun g => h g.symm)]; simp [h]
  | cons d u ih =>
    cases ws with
    | nil => simp [List.isPrefixOf]
    | cons f r =>
      simp only [List.cons_append, List.isPrefixOf, ih, List.length_cons, List.getElem?_cons_succ, Bool.and_assoc]
theorem pfx_all {u : List Nat} : (u.isPrefixOf ws = true ∧ u.length = ws.length) ↔ u = ws := by
  constructor
  · rintro ⟨h1, h2⟩
    exact List.IsPrefix.eq_of_length (List.isPrefixOf_iff_prefix.mp h1) h2
  · rintro rfl
    exact ⟨List.isPrefixOf_iff_prefix.mpr (List.prefix_refl _), rfl⟩
/-- findBasic over the signs left -/
def fbr (ws : List Nat) : List Nat → Nat → List Nat → Int32
  | _, _, [] => -1
  | u, k, c :: cs => if c = 32 then (if u = ws then nI k else fbr ws [] (k + 1) cs) else fbr ws (u ++ [c]) k cs
theorem rcs0 : rt_cs [] ≤ 8 := by decide
theorem rcs1 : rt_cs [Value.int x] ≤ 8 := by simp [rt_cs, Value.category]
theorem rcs2 {y : Int32} : rt_cs [Value.int x, Value.int y] ≤ 8 := by simp [rt_cs, Value.category]
theorem str_at : ∀ {p : Nat}, p < 132 → (rt_strB ++ [32])[p]? = some (rt_strB.getD p 0) := by
  intro p hp
  rw [List.getElem?_append_left (by rw [st_byT.2.1]; exact hp), List.getD_eq_getElem?_getD, List.getElem?_eq_getElem (by rw [st_byT.2.1]; exact hp)]
  rfl
theorem str_end : (rt_strB ++ [32])[132]? = some 32 := by decide +kernel
theorem str_len : (rt_strB ++ [32]).length = 133 := by rw [List.length_append, st_byT.2.1]; rfl
theorem drop_cs {α : Type} {l cs : List α} {c : α} {p : Nat} (h : l.drop p = c :: cs) : l[p]? = some c ∧ l.drop (p + 1) = cs := by
  constructor
  · rw [← List.head?_drop, h]; rfl
  · rw [← List.tail_drop, h]; rfl
theorem x_fb_l (hR : RG R a b) (hn : I 7 1 = nI n) (h2 : n ≤ 200) (ht : ∀ k, k < n → I 8 k = nI (t k)) (hb : ∀ k, k < n → t k < 256) (hse : s ≤ en) (hen : en ≤ n) :
    ∀ (cs : List Nat) (p : Nat) (u : List Nat) (k : Nat) (g : Value), (rt_strB ++ [32]).drop p = cs → p ≤ 133 → u.length ≤ p → k ≤ p → rt_ns g = true → Ev mX8_findBasic 11 [.ref 7, .int (nI s), .int (nI en), .int (nI k), .int (nI (s + u.length)), .int (b01 (u.isPrefixOf (txt t s en))), .int (nI p), g] [] (71 + e, I, L, R) = some (some (.int (fbr (txt t s en) u k cs)), (71 + e, I, L, R)) := by
  have q132 : nI rt_strL = nI 132 := rfl
  have q32 : (32 : Int32) = nI 32 := rfl
  intro cs
  induction cs with
  | nil =>
    intro p u k g hc hp hu hk hg
    have hp2 : p = 133 := by
      have := List.drop_eq_nil_iff.mp hc
      rw [str_len] at this
      omega
    subst hp2
    have c1 : (132 : Nat) < 133 := by decide
    rw [e_X8_findBasic_11]
    simp (disch := first | exact rt_bo_0 | exact rt_bo_1 | exact ns_float | exact ns_int | exact ns_ref | assumption | omega | (simp (disch := omega) only [rcs1, rcs0, rt_in_nI, Option.isSome_some, Option.getD_some, Bool.or_true, Bool.true_or]; done) | fail) only [e_X8_findBasic_0, e_X8_findBasic_1, e_X8_findBasic_2, e_X8_findBasic_3, e_X8_findBasic_5, e_X8_findBasic_6, e_X8_findBasic_8, e_X8_findBasic_9, e_X8_findBasic_13, e_X8_findBasic_15, e_X8_findBasic_18, e_X8_findBasic_21, e_X8_findBasic_23, e_X8_findBasic_25, e_X8_findBasic_28, e_X8_findBasic_31, e_X8_findBasic_33, e_X8_findBasic_35, e_X8_findBasic_38, e_X8_findBasic_41, e_X8_findBasic_43, e_X8_findBasic_45, e_X8_findBasic_47, e_X8_findBasic_49, e_X8_findBasic_52, e_X8_findBasic_54, e_X8_findBasic_57, e_X8_findBasic_59, e_X8_findBasic_60, e_X8_findBasic_63, e_X8_findBasic_64, e_X8_findBasic_66, e_X8_findBasic_69, e_X8_findBasic_71, e_X8_findBasic_74, e_X8_findBasic_75, e_X8_findBasic_78, e_X8_findBasic_79, e_X8_findBasic_81, e_X8_findBasic_84, e_X8_findBasic_87, e_X8_findBasic_89, e_X8_findBasic_92, e_X8_findBasic_94, e_X8_findBasic_95, e_X8_findBasic_98, e_X8_findBasic_99, e_X8_findBasic_100, e_X8_findBasic_103, e_X8_findBasic_104, e_X8_findBasic_106, e_X8_findBasic_107, e_X8_findBasic_109, e_X8_findBasic_112, e_X8_findBasic_115, e_X8_findBasic_116, q132, q_lt, c1, if_true, fbr]
  | cons c cs ih =>
    intro p u k g hc hp hu hk hg
    obtain ⟨d1, d2⟩ := drop_cs hc
    have hp2 : p < 133 := by
      rw [← str_len]
      exact (List.getElem?_eq_some_iff.mp d1).1
    have hsg : Ev mX8_findBasic 11 [.ref 7, .int (nI s), .int (nI en), .int (nI k), .int (nI (s + u.length)), .int (b01 (u.isPrefixOf (txt t s en))), .int (nI p), g] [] (71 + e, I, L, R) = Ev mX8_findBasic 45 [.ref 7, .int (nI s), .int (nI en), .int (nI k), .int (nI (s + u.length)), .int (b01 (u.isPrefixOf (txt t s en))), .int (nI p), .int (nI c)] [] (71 + e, I, L, R) ∧ c < 256 := by
      by_cases h : p < 132
      · have h3 : ¬ 132 < p := by omega
        have h4 : ¬ 132 ≤ p := by omega
        rw [str_at h, Option.some.injEq] at d1
        have hin : rt_in (nI p) rt_strL = true := by
          exact rt_in_nI h (by decide)
        refine ⟨?_, by have := (st_byAt h).2; omega⟩
        rw [e_X8_findBasic_11]
        simp (disch := first | exact rt_bo_0 | exact rt_bo_1 | exact ns_float | exact ns_int | exact ns_ref | assumption | omega | (simp (disch := omega) only [rcs1, rcs0, rt_in_nI, Option.isSome_some, Option.getD_some, Bool.or_true, Bool.true_or]; done) | fail) only [e_X8_findBasic_13, e_X8_findBasic_15, e_X8_findBasic_18, e_X8_findBasic_21, e_X8_findBasic_23, e_X8_findBasic_25, e_X8_findBasic_28, e_X8_findBasic_31, e_X8_findBasic_33, e_X8_findBasic_35, e_X8_findBasic_38, e_X8_findBasic_43, q132, q_lt, q_le, h3, h4, if_false, nI_cl, d1]
      · have h5 : p = 132 := by omega
        subst h5
        rw [str_end, Option.some.injEq] at d1
        subst d1
        have h3 : ¬ 132 < 132 := by omega
        refine ⟨?_, by decide⟩
        rw [e_X8_findBasic_11]
        simp (disch := first | exact rt_bo_0 | exact rt_bo_1 | exact ns_float | exact ns_int | exact ns_ref | assumption | omega | (simp (disch := omega) only [rcs1, rcs0, rt_in_nI, Option.isSome_some, Option.getD_some, Bool.or_true, Bool.true_or]; done) | fail) only [e_X8_findBasic_13, e_X8_findBasic_15, e_X8_findBasic_18, e_X8_findBasic_21, e_X8_findBasic_23, e_X8_findBasic_25, e_X8_findBasic_28, e_X8_findBasic_41, e_X8_findBasic_43, q132, q32, q_lt, q_le, h3, Nat.le_refl, if_false, if_true]
    obtain ⟨hsg, hc2⟩ := hsg
    rw [hsg, fbr]
    by_cases h32 : c = 32
    · rw [if_pos h32]
      have hih := ih (p + 1) [] (k + 1) (.int (nI c)) d2 (by omega) (by exact Nat.zero_le _) (by omega) ns_int
      have hnil : ([] : List Nat).isPrefixOf (txt t s en) = true := by simp [List.isPrefixOf]
      rw [hnil, List.length_nil, Nat.add_zero] at hih
      have hb1 : b01 true = 1 := rfl
      rw [hb1] at hih
      subst h32
      by_cases hw : u = txt t s en
      · have hw2 := pfx_all.mpr hw
        rw [txt_len] at hw2
        have hse2 : s + u.length = en := by omega
        rw [if_pos hw, hw2.1, hb1]
        simp (disch := first | exact rt_bo_0 | exact rt_bo_1 | exact ns_float | exact ns_int | exact ns_ref | assumption | omega | (simp (disch := omega) only [q_10, rt_in_nI, Option.isSome_some, Option.getD_some, Bool.or_true, Bool.true_or]; done) | fail) only [e_X8_findBasic_45, e_X8_findBasic_47, e_X8_findBasic_49, e_X8_findBasic_87, e_X8_findBasic_89, e_X8_findBasic_92, e_X8_findBasic_94, e_X8_findBasic_95, e_X8_findBasic_98, e_X8_findBasic_99, q32, hse2, q_10, if_true, if_false, ne_eq, not_true, not_false_eq_true]
      · rw [if_neg hw]
        cases hpx : u.isPrefixOf (txt t s en) with
        | false =>
          have hb0 : b01 false = 0 := rfl
          rw [hb0]
          simp (disch := first | exact rt_bo_0 | exact rt_bo_1 | exact ns_float | exact ns_int | exact ns_ref | assumption | omega | (simp (disch := omega) only [q_10, rt_in_nI, Option.isSome_some, Option.getD_some, Bool.or_true, Bool.true_or]; done) | fail) only [e_X8_findBasic_45, e_X8_findBasic_47, e_X8_findBasic_49, e_X8_findBasic_87, e_X8_findBasic_89, e_X8_findBasic_100, e_X8_findBasic_103, e_X8_findBasic_104, e_X8_findBasic_106, e_X8_findBasic_107, e_X8_findBasic_109, e_X8_findBasic_112, q32, q_00, q_s, if_true, if_false, ne_eq, not_true, not_false_eq_true]
          exact hih
        | true =>
          have hne : ¬ s + u.length = en := by
            intro h
            exact hw (pfx_all.mp ⟨hpx, by rw [txt_len]; omega⟩)
          rw [hb1]
          simp (disch := first | exact rt_bo_0 | exact rt_bo_1 | exact ns_float | exact ns_int | exact ns_ref | assumption | omega | (simp (disch := omega) only [q_10, rt_in_nI, Option.isSome_some, Option.getD_some, Bool.or_true, Bool.true_or]; done) | fail) only [e_X8_findBasic_45, e_X8_findBasic_47, e_X8_findBasic_49, e_X8_findBasic_87, e_X8_findBasic_89, e_X8_findBasic_92, e_X8_findBasic_94, e_X8_findBasic_95, e_X8_findBasic_100, e_X8_findBasic_103, e_X8_findBasic_104, e_X8_findBasic_106, e_X8_findBasic_107, e_X8_findBasic_109, e_X8_findBasic_112, q32, q_10, q_eq, hne, q_s, if_true, if_false, ne_eq, not_true, not_false_eq_true]
          exact hih
    · rw [if_neg h32]
      have hih := ih (p + 1) (u ++ [c]) k (.int (nI c)) d2 (by omega) (by rw [List.length_append, List.length_singleton]; omega) (by omega) ns_int
      rw [pfx_snoc, List.length_append, List.length_singleton, ← Nat.add_assoc] at hih
      have hb1 : b01 true = 1 := rfl
      have hb0 : b01 false = 0 := rfl
      cases hpx : u.isPrefixOf (txt t s en) with
      | false =>
        rw [hpx, Bool.false_and, hb0] at hih
        rw [hb0]
        simp (disch := first | exact rt_bo_0 | exact rt_bo_1 | exact ns_float | exact ns_int | exact ns_ref | assumption | omega | (simp (disch := omega) only [q_10, rt_in_nI, Option.isSome_some, Option.getD_some, Bool.or_true, Bool.true_or]; done) | fail) only [e_X8_findBasic_45, e_X8_findBasic_47, e_X8_findBasic_49, e_X8_findBasic_52, e_X8_findBasic_54, e_X8_findBasic_78, e_X8_findBasic_79, e_X8_findBasic_81, e_X8_findBasic_84, e_X8_findBasic_109, e_X8_findBasic_112, q32, q_00, q_eq, h32, q_s, if_true, if_false, ne_eq, not_true, not_false_eq_true, hih]
      | true =>
        rw [hpx, Bool.true_and, txt_get] at hih
        rw [hb1]
        by_cases hl : s + u.length < en
        · have hl2 : u.length < en - s := by omega
          have hl3 : ¬ en ≤ s + u.length := by omega
          have hl4 : s + u.length < n := by omega
          rw [if_pos hl2] at hih
          have hbb := hb _ hl4
          by_cases hq : t (s + u.length) = c
          · rw [decide_eq_true (by rw [hq]), hb1] at hih
            simp (disch := first | exact rt_bo_0 | exact rt_bo_1 | exact ns_float | exact ns_int | exact ns_ref | assumption | omega | (simp (disch := omega) only [ob_7, rg_7_0 hR, ar_8, ln_8, rt_in_nI, Option.isSome_some, Option.getD_some, Bool.or_true, Bool.true_or]; done) | fail) only [e_X8_findBasic_45, e_X8_findBasic_47, e_X8_findBasic_49, e_X8_findBasic_52, e_X8_findBasic_54, e_X8_findBasic_57, e_X8_findBasic_59, e_X8_findBasic_60, e_X8_findBasic_63, e_X8_findBasic_64, e_X8_findBasic_66, e_X8_findBasic_69, e_X8_findBasic_71, e_X8_findBasic_74, e_X8_findBasic_75, e_X8_findBasic_79, e_X8_findBasic_81, e_X8_findBasic_84, e_X8_findBasic_109, e_X8_findBasic_112, x_byte hR hn h2 hl4, ht _ hl4, hq, q32, q_10, q_eq, q_le, hl3, h32, q_s, if_true, if_false, ne_eq, not_true, not_false_eq_true, hih, Option.getD_some, Option.bind_some, Option.toList_some, Option.toList_none, List.cons_append, List.nil_append]
          · rw [decide_eq_false (by rw [Option.some.injEq]; exact hq), hb0] at hih
            simp (disch := first | exact rt_bo_0 | exact rt_bo_1 | exact ns_float | exact ns_int | exact ns_ref | assumption | omega | (simp (disch := omega) only [ob_7, rg_7_0 hR, ar_8, ln_8, rt_in_nI, Option.isSome_some, Option.getD_some, Bool.or_true, Bool.true_or]; done) | fail) only [e_X8_findBasic_45, e_X8_findBasic_47, e_X8_findBasic_49, e_X8_findBasic_52, e_X8_findBasic_54, e_X8_findBasic_57, e_X8_findBasic_59, e_X8_findBasic_60, e_X8_findBasic_63, e_X8_findBasic_64, e_X8_findBasic_66, e_X8_findBasic_69, e_X8_findBasic_71, e_X8_findBasic_78, e_X8_findBasic_79, e_X8_findBasic_81, e_X8_findBasic_84, e_X8_findBasic_109, e_X8_findBasic_112, x_byte hR hn h2 hl4, ht _ hl4, hq, q32, q_10, q_eq, q_le, hl3, h32, q_s, if_true, if_false, ne_eq, not_true, not_false_eq_true, hih, Option.getD_some, Option.bind_some, Option.toList_some, Option.toList_none, List.cons_append, List.nil_append]
        · have hl2 : ¬ u.length < en - s := by omega
          have hl3 : en ≤ s + u.length := by omega
          rw [if_neg hl2, decide_eq_false (by simp), hb0] at hih
          simp (disch := first | exact rt_bo_0 | exact rt_bo_1 | exact ns_float | exact ns_int | exact ns_ref | assumption | omega | (simp (disch := omega) only [ob_7, rg_7_0 hR, ar_8, ln_8, rt_in_nI, Option.isSome_some, Option.getD_some, Bool.or_true, Bool.true_or]; done) | fail) only [e_X8_findBasic_45, e_X8_findBasic_47, e_X8_findBasic_49, e_X8_findBasic_52, e_X8_findBasic_54, e_X8_findBasic_57, e_X8_findBasic_59, e_X8_findBasic_60, e_X8_findBasic_78, e_X8_findBasic_79, e_X8_findBasic_81, e_X8_findBasic_84, e_X8_findBasic_109, e_X8_findBasic_112, q32, q_10, q_eq, q_le, hl3, h32, q_s, if_true, if_false, ne_eq, not_true, not_false_eq_true, hih, Option.getD_some, Option.bind_some, Option.toList_some, Option.toList_none, List.cons_append, List.nil_append]
/-- the words of the document, in the class's order -/
def bW : List (List Nat) := (rt_strB ++ [32]).foldl (fun (q : List (List Nat) × List Nat) c => if c = 32 then (q.1 ++ [q.2], []) else (q.1, q.2 ++ [c])) ([], []) |>.1
/-- where a word stands among others -/
def ixw (ws : List Nat) : Nat → List (List Nat) → Option Nat
  | _, [] => none
  | k, v :: r => if v = ws then some k else ixw ws (k + 1) r
theorem fbr_w {v : List Nat} : ∀ {u cs : List Nat}, (∀ c, c ∈ v → c ≠ 32) → fbr ws u k (v ++ 32 :: cs) = if u ++ v = ws then nI k else fbr ws [] (k + 1) cs := by
  induction v with
  | nil => intro u cs _; rw [List.nil_append, fbr, if_pos rfl, List.append_nil]
  | cons d v ih =>
    intro u cs h
    rw [List.cons_append, fbr, if_neg (h d List.mem_cons_self), ih (fun c hc => h c (List.mem_cons_of_mem _ hc)), List.append_assoc]
    rfl
theorem fbr_ws : ∀ {l : List (List Nat)} {k : Nat}, (∀ v, v ∈ l → ∀ c, c ∈ v → c ≠ 32) → fbr ws [] k (l.flatMap (fun v => v ++ [32])) = oX (ixw ws k l) := by
  intro l
  induction l with
  | nil => intro k _; rfl
  | cons v l ih =>
    intro k h
    rw [List.flatMap_cons, List.append_assoc, List.singleton_append, fbr_w (h v List.mem_cons_self), ih (fun w hw => h w (List.mem_cons_of_mem _ hw)), List.nil_append, ixw]
    split <;> rfl
theorem bW_str : rt_strB ++ [32] = bW.flatMap (fun v => v ++ [32]) := by decide +kernel
theorem bW_no : ∀ v, v ∈ bW → ∀ c, c ∈ v → c ≠ 32 := by decide +kernel
theorem x_fb (hR : RG R a b) (hn : I 7 1 = nI n) (h2 : n ≤ 200) (ht : ∀ k, k < n → I 8 k = nI (t k)) (hb : ∀ k, k < n → t k < 256) (hse : s ≤ en) (hen : en ≤ n) : Ev mX8_findBasic 0 [.ref 7, .int (nI s), .int (nI en), .float 0, .float 0, .float 0, .float 0, .float 0] [] (71 + e, I, L, R) = some (some (.int (oX (ixw (txt t s en) 0 bW))), (71 + e, I, L, R)) := by
  have h := x_fb_l (e := e) (L := L) hR hn h2 ht hb hse hen _ 0 [] 0 (.float 0) rfl (by omega) (by exact Nat.zero_le _) (by omega) ns_float
  have hnil : ([] : List Nat).isPrefixOf (txt t s en) = true := by simp [List.isPrefixOf]
  have hb1 : b01 true = 1 := rfl
  rw [hnil, List.length_nil, Nat.add_zero, hb1, nI_0, List.drop_zero, bW_str, fbr_ws bW_no] at h
  simp (disch := first | exact rt_bo_0 | exact rt_bo_1 | exact ns_float | exact ns_int | exact ns_ref | assumption | omega | (simp (disch := omega) only [q_10, rt_in_nI, Option.isSome_some, Option.getD_some, Bool.or_true, Bool.true_or]; done) | fail) only [e_X8_findBasic_0, e_X8_findBasic_1, e_X8_findBasic_2, e_X8_findBasic_3, e_X8_findBasic_5, e_X8_findBasic_6, e_X8_findBasic_8, e_X8_findBasic_9, e_X8_findBasic_13, e_X8_findBasic_15, e_X8_findBasic_18, e_X8_findBasic_21, e_X8_findBasic_23, e_X8_findBasic_25, e_X8_findBasic_28, e_X8_findBasic_31, e_X8_findBasic_33, e_X8_findBasic_35, e_X8_findBasic_38, e_X8_findBasic_41, e_X8_findBasic_43, e_X8_findBasic_45, e_X8_findBasic_47, e_X8_findBasic_49, e_X8_findBasic_52, e_X8_findBasic_54, e_X8_findBasic_57, e_X8_findBasic_59, e_X8_findBasic_60, e_X8_findBasic_63, e_X8_findBasic_64, e_X8_findBasic_66, e_X8_findBasic_69, e_X8_findBasic_71, e_X8_findBasic_74, e_X8_findBasic_75, e_X8_findBasic_78, e_X8_findBasic_79, e_X8_findBasic_81, e_X8_findBasic_84, e_X8_findBasic_87, e_X8_findBasic_89, e_X8_findBasic_92, e_X8_findBasic_94, e_X8_findBasic_95, e_X8_findBasic_98, e_X8_findBasic_99, e_X8_findBasic_100, e_X8_findBasic_103, e_X8_findBasic_104, e_X8_findBasic_106, e_X8_findBasic_107, e_X8_findBasic_109, e_X8_findBasic_112, e_X8_findBasic_115, e_X8_findBasic_116, h]
end P57

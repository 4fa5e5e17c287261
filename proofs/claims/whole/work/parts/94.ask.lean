section P32
variable {e : Nat} {I I2 : Nat → Nat → Int32} {L : Nat → Nat → Int64} {R : Nat → Nat → Option Nat} {a b T j n k p i nw s r NR fm : Nat} {x y : Int32} {q : PhT} {tp : Nat → PhT} {td dg : Nat → Nat → Nat} {to_ : Nat → Option Nat} {it th one ln : Option Nat} {dn : Bool} {al : Nat → Nat → Bool}
theorem SM_cl (h : SM I R a b T nw tp td to_ it th) (hf : ∀ c, 32 < c → I2 c = I c) : SM I2 R a b T nw tp td to_ it th := by
  obtain ⟨h1, h2, h3, h4, h5, h6, h7, h8, h9⟩ := h
  have f33 := hf 33 (by omega)
  refine ⟨h1, ?_, h3, ?_, h5, ?_, ?_, ?_, ?_⟩
  · rw [f33]; exact h2
  · rw [hf 34 (by omega), hf 37 (by omega)]; exact h4
  · rw [f33]; exact h6
  · intro k hk
    obtain ⟨g3, g4, g5, g6, g7, g8, g9⟩ := h7 k hk
    refine ⟨PM_fr g3 (fun c hc1 hc2 => hf c (by omega)), g4, g5, g6, ?_, ?_, g9⟩
    · rw [hf 54 (by omega)]; exact g7
    · rw [hf 53 (by omega)]; exact g8
  · rw [f33, hf 62 (by omega)]; exact h8
  · rw [f33, hf 39 (by omega)]; exact h9
theorem YM_cl (h : YM I q NR dg nw ln) (hf : ∀ c, 32 < c → I2 c = I c) : YM I2 q NR dg nw ln := by
  obtain ⟨h1, h2, h3, h4, h5, h6, h7⟩ := h
  have f33 := hf 33 (by omega)
  refine ⟨PM_fr h1 (fun c hc1 hc2 => hf c (by omega)), ?_, h3, ?_, ?_, h6, h7⟩
  · rw [f33]; exact h2
  · rw [hf 55 (by omega)]; exact h4
  · rw [f33]; exact h5
theorem m_taken (h : SM I R a b T nw tp td to_ it th) (hy : YM I q NR dg nw ln) (hfm : I 33 33 = nI fm) (hF : YF q NR dg fm dn) :
    ∃ I2, Ev mX10_takenReading 0 [.ref 33, .float 0, .float 0, .float 0] [] (71 + e, I, L, R) = some (some (.int (chl (fun r => trk T (I 34) (I 37) q fm dn (mnA T (I 34) (I 35) (I 36) (I 37) tp td to_ it th nw ln q dg r) (dg r) 0 (pP q) = 0) (fun r => upM T (I 34) (I 37) q fm dn (mnA T (I 34) (I 35) (I 36) (I 37) tp td to_ it th nw ln q dg r) (dg r)) NR 0 none)), (71 + e, I2, L, R)) ∧ (∀ c, c ≠ 33 → c ≠ 63 → c ≠ 64 → I2 c = I c) ∧ (∀ k, k < 51 ∨ 55 < k → I2 33 k = I 33 k) ∧
      ∀ r0, r0 < NR → chl (fun r => trk T (I 34) (I 37) q fm dn (mnA T (I 34) (I 35) (I 36) (I 37) tp td to_ it th nw ln q dg r) (dg r) 0 (pP q) = 0) (fun r => upM T (I 34) (I 37) q fm dn (mnA T (I 34) (I 35) (I 36) (I 37) tp td to_ it th nw ln q dg r) (dg r)) NR 0 none = nI r0 → trk T (I 34) (I 37) q fm dn (mnA T (I 34) (I 35) (I 36) (I 37) tp td to_ it th nw ln q dg r0) (dg r0) 0 (pP q) = 0 ∧ (∀ j, j < pP q → I2 63 j = bs (mnA T (I 34) (I 35) (I 36) (I 37) tp td to_ it th nw ln q dg r0 j) T) ∧ I2 33 52 = mvv T (I 34) fm (mnA T (I 34) (I 35) (I 36) (I 37) tp td to_ it th nw ln q dg r0) ∧ I2 33 53 = ptv T (I 34) (I 37) q fm dn (mnA T (I 34) (I 35) (I 36) (I 37) tp td to_ it th nw ln q dg r0) (dg r0) ∧ I2 33 54 = psv q fm dn (dg r0) ∧ I2 33 55 = upM T (I 34) (I 37) q fm dn (mnA T (I 34) (I 35) (I 36) (I 37) tp td to_ it th nw ln q dg r0) (dg r0) := by
  obtain ⟨I2, hE, g1, g2, g3⟩ := m_taken_l (e := e) (L := L) h hy hfm hF rfl NR 0 none I (.float 0) (by omega) (fun _ _ _ _ => rfl) (fun _ _ => rfl) (fun r0 h0 => by cases h0) rfl
  refine ⟨I2, ?_, g1, g2, g3⟩
  have hR := h.1
  have e3 : oF none = -3 := rfl
  rw [nI_0, e3] at hE
  simp (disch := first | exact rt_bo_0 | exact rt_bo_1 | exact ns_float | exact ns_int | exact ns_ref | assumption | omega | (simp (disch := omega) only [ob_33, rg_33_2 hR, ar_34, ln_34, rg_33_3 hR, ar_35, ln_35, rg_33_4 hR, ar_36, ln_36, rg_33_5 hR, ar_37, ln_37, rg_33_6 hR, ar_38, ln_38, rg_33_7 hR, ar_39, ln_39, rg_33_8 hR, ar_40, ln_40, rg_33_9 hR, ar_41, ln_41, rg_33_10 hR, ar_42, ln_42, rg_33_11 hR, ar_43, ln_43, rg_33_12 hR, ar_44, ln_44, rg_33_19 hR, ar_45, ln_45, rg_33_20 hR, ar_46, ln_46, rg_33_23 hR, ar_47, ln_47, rg_33_24 hR, ar_48, ln_48, rg_33_25 hR, ar_49, ln_49, rg_33_26 hR, ar_50, ln_50, rg_33_27 hR, ar_51, ln_51, rg_33_28 hR, ar_52, ln_52, rg_33_29 hR, ar_53, ln_53, rg_33_30 hR, ar_54, ln_54, rg_33_39 hR, ar_55, ln_55, rg_33_40 hR, ar_56, ln_56, rg_33_41 hR, ar_57, ln_57, rg_33_42 hR, ar_58, ln_58, rg_33_43 hR, ar_59, ln_59, rg_33_44 hR, ar_60, ln_60, rg_33_45 hR, ar_61, ln_61, rg_33_48 hR, ar_62, ln_62, rg_33_49 hR, ar_63, ln_63, rg_33_50 hR, ar_64, ln_64, rg_33_56 hR, ar_65, ln_65, rg_33_57 hR, ar_66, ln_66, rg_33_58 hR, ar_67, ln_67, rg_33_59 hR, ar_68, ln_68, rg_33_66 hR, ar_69, ln_69, rg_33_67 hR, ar_70, ln_70, rt_in_nI, Option.isSome_some, Option.getD_some, Bool.or_true, Bool.true_or]; done) | fail) only [e_X10_takenReading_0, e_X10_takenReading_2, e_X10_takenReading_3, e_X10_takenReading_4, e_X10_takenReading_6, e_X10_takenReading_7, e_X10_takenReading_10, e_X10_takenReading_13, e_X10_takenReading_14, e_X10_takenReading_15, e_X10_takenReading_18, e_X10_takenReading_21, e_X10_takenReading_24, e_X10_takenReading_25, e_X10_takenReading_26, e_X10_takenReading_29, e_X10_takenReading_30, e_X10_takenReading_31, e_X10_takenReading_34, e_X10_takenReading_35, e_X10_takenReading_36, e_X10_takenReading_39, e_X10_takenReading_42, e_X10_takenReading_44, e_X10_takenReading_45, e_X10_takenReading_46, e_X10_takenReading_47, e_X10_takenReading_50, e_X10_takenReading_51, e_X10_takenReading_53, e_X10_takenReading_56, e_X10_takenReading_57, e_X10_takenReading_60, e_X10_takenReading_61, e_X10_takenReading_62, e_X10_takenReading_65, e_X10_takenReading_68, e_X10_takenReading_69, e_X10_takenReading_72, e_X10_takenReading_73, e_X10_takenReading_74, e_X10_takenReading_75, e_X10_takenReading_78, e_X10_takenReading_81, e_X10_takenReading_82, e_X10_takenReading_83, e_X10_takenReading_86, e_X10_takenReading_89, e_X10_takenReading_90, e_X10_takenReading_93, e_X10_takenReading_96, e_X10_takenReading_97, hE]
theorem mvx_c {so : Nat → Int32} {mn : Nat → Nat → Bool} (h : ¬ mvx T so mn = -1) : ∃ z, z < T ∧ mvx T so mn = nI z := by
  unfold mvx at h ⊢
  rcases ff_cases (fun x => mn 0 x = true ∧ ¬ so x = 2) T 0 with ⟨g, -⟩ | ⟨y, -, g2, -, g4, -⟩
  · exact absurd g h
  · exact ⟨y, by omega, g4⟩
theorem glx_c {so at_ : Nat → Int32} {V : Nat → Bool} {sr mv : Int32} (h : ¬ glx T so at_ V sr mv = -1) : ∃ y, y < T ∧ glx T so at_ V sr mv = nI y ∧ so y = sr := by
  unfold glx at h ⊢
  rcases ff_cases (fun y => V y = true ∧ so y = sr ∧ ¬ nI y = mv ∧ sov T at_ mv 16 (low at_ y) = false) T 0 with ⟨g, -⟩ | ⟨y, -, g2, g3, g4, -⟩
  · exact absurd g h
  · exact ⟨y, by omega, g4, g3.2.1⟩
theorem trf_0 {tn : Nat → Int32} {last : Int32} : ∀ {g k : Nat}, trf tn last k g = 0 → last = 0 ∧ ∀ j, k ≤ j → j < k + g → tn j = 0 := by
  intro g
  induction g with
  | zero => intro k h; exact ⟨h, fun j h1 h2 => by omega⟩
  | succ g ih =>
    intro k h
    unfold trf at h
    by_cases h0 : tn k = 0
    · rw [if_pos h0] at h
      obtain ⟨h1, h2⟩ := ih h
      refine ⟨h1, fun j h3 h4 => ?_⟩
      by_cases hj : j = k
      · subst hj; exact h0
      · exact h2 j (by omega) (by omega)
    · rw [if_neg h0] at h
      exact absurd h h0
theorem trk_cbd {so at_ : Nat → Int32} {mn : Nat → Nat → Bool} {d : Nat → Nat} (h : trk T so at_ q fm dn mn d 0 (pP q) = 0) : cbd T so at_ q fm dn mn d = true := by
  have := (trf_0 h).1
  cases hc : cbd T so at_ q fm dn mn d with
  | true => rfl
  | false => rw [hc] at this; exact absurd this (by decide)
/-- of readings that fit: both ways of saying what they come to part the same -/
theorem up_eq {so at_ : Nat → Int32} (h16 : T ≤ 16) {mn mn' : Nat → Nat → Bool} {d d' : Nat → Nat} (hO6 : pO q ≤ 6) (h : cbd T so at_ q fm dn mn d = true) (h' : cbd T so at_ q fm dn mn' d' = true) (hp : fm = 0 → dn = false → plN (pO q) d < pO q ∧ pR q (plN (pO q) d) < 2) (hp' : fm = 0 → dn = false → plN (pO q) d' < pO q ∧ pR q (plN (pO q) d') < 2) :
    (upX T so at_ q fm dn mn d = upX T so at_ q fm dn mn' d') ↔ (upM T so at_ q fm dn mn d = upM T so at_ q fm dn mn' d') := by
  have e16 : (16 : Int32) = nI 16 := rfl
  have e17 : (17 : Int32) = nI 17 := rfl
  have e32 : (32 : Int32) = nI 32 := rfl
  have e1 : (1 : Int32) = nI 1 := rfl
  have e100 : (100 : Int32) = nI 100 := rfl
  have e1000 : (1000 : Int32) = nI 1000 := rfl
  have key : fm = 0 ∨ fm = 1 → ∀ {mn : Nat → Nat → Bool} {d : Nat → Nat}, cbd T so at_ q fm dn mn d = true → (∃ z, z < T ∧ mvv T so fm mn = nI z) ∧ ¬ glv T so at_ q fm dn mn d = -1 := by
    intro hf mn d hc
    unfold cbd at hc
    rw [if_neg (by omega), if_pos hf, Bool.and_eq_true] at hc
    obtain ⟨c1, c2⟩ := hc
    have m1 : mvv T so fm mn = mvx T so mn := by unfold mvv; rw [if_pos hf]
    rw [m1] at c1 ⊢
    exact ⟨mvx_c (by simpa using c1), by simpa using c2⟩
  unfold upX upM
  by_cases h0 : fm = 0
  · subst h0
    obtain ⟨⟨z, z1, z2⟩, z3⟩ := key (Or.inl rfl) h
    obtain ⟨⟨z', z1', z2'⟩, z3'⟩ := key (Or.inl rfl) h'
    simp only [if_true, true_or]
    rw [z2, z2']
    cases dn with
    | true =>
      have g1 : ∀ (mn : Nat → Nat → Bool) d, glv T so at_ q 0 true mn d = nI 16 := fun mn d => by unfold glv; simp [e16]
      have g2 : ∀ (mn : Nat → Nat → Bool) d, ptv T so at_ q 0 true mn d = -1 := fun mn d => by unfold ptv; simp
      have g3 : ∀ d, psv q 0 true d = -1 := fun d => by unfold psv; simp
      rw [g1, g1, g2, g2, g3, g3]
      have m1 : (100 : Int32) * (1 + -1) = nI 0 := by decide
      have m2 : ∀ w, (1000 : Int32) * (1 + nI w) + 100 * (1 + -1) + 1 + -1 = nI (1000 * (w + 1)) := by
        intro w
        rw [m1, q_1p, e1000, pk_mul, nI_add, q_s, pk_m1, Nat.add_zero]
      rw [m2, m2, e32, pk_mul, pk_mul, nI_add, nI_add, q_eq (by omega) (by omega), q_eq (by omega) (by omega)]
      omega
    | false =>
      have g1 : ∀ (mn : Nat → Nat → Bool) d, glv T so at_ q 0 false mn d = glx T so at_ (mn (plN (pO q) d + 1)) (srt (pR q (plN (pO q) d))) (mvx T so mn) := fun mn d => by unfold glv; simp
      have g2 : ∀ (mn : Nat → Nat → Bool) d, ptv T so at_ q 0 false mn d = glv T so at_ q 0 false mn d := fun mn d => by unfold ptv; simp
      have g3 : ∀ d, psv q 0 false d = nI (pR q (plN (pO q) d)) := fun d => by unfold psv; simp
      obtain ⟨p1, p2⟩ := hp rfl rfl
      obtain ⟨p1', p2'⟩ := hp' rfl rfl
      rw [g2, g2, g3, g3]
      rw [g1] at z3 z3' ⊢
      rw [g1]
      obtain ⟨y, y1, y2, y3⟩ := glx_c z3
      obtain ⟨y', y1', y2', y3'⟩ := glx_c z3'
      rw [y2, y2', e32, e1000, e100, e1]
      generalize pR q (plN (pO q) d) = w at *
      generalize pR q (plN (pO q) d') = w' at *
      simp only [pk_mul, nI_add]
      rw [q_eq (by omega) (by omega), q_eq (by omega) (by omega)]
      constructor
      · intro hh
        have hz : z = z' := by omega
        have hy : y = y' := by omega
        subst hy
        rw [y3] at y3'
        have hw : w = w' := by
          have a1 : w = 0 ∨ w = 1 := by omega
          have a2 : w' = 0 ∨ w' = 1 := by omega
          rcases a1 with rfl | rfl <;> rcases a2 with rfl | rfl
          · rfl
          · exact absurd y3' (by decide)
          · exact absurd y3' (by decide)
          · rfl
        omega
      · intro hh
        omega
  · by_cases h1 : fm = 1
    · subst h1
      obtain ⟨⟨z, z1, z2⟩, z3⟩ := key (Or.inr rfl) h
      obtain ⟨⟨z', z1', z2'⟩, z3'⟩ := key (Or.inr rfl) h'
      have g1 : ∀ (mn : Nat → Nat → Bool) d, glv T so at_ q 1 dn mn d = nI 17 := fun mn d => by unfold glv; simp [e17]
      simp only [if_true, or_true, if_neg (show ¬ (1 = 0) by omega)]
      rw [z2, z2', g1, g1, e32, pk_mul, pk_mul, nI_add, nI_add, q_eq (by omega) (by omega), q_eq (by omega) (by omega)]
      omega
    · have n01 : ¬ (fm = 0 ∨ fm = 1) := by omega
      simp only [if_neg n01, if_neg h0, if_neg h1]
      by_cases h78 : fm = 7 ∨ fm = 8
      · have n3 : ¬ fm = 3 := by omega
        have n4 : ¬ fm = 4 := by omega
        have n5 : fm = 5 ∨ fm = 7 ∨ fm = 8 := by omega
        simp only [if_pos h78, if_neg n3, if_neg n4, if_pos n5]
      · simp only [if_neg h78]
        by_cases h345 : fm = 3 ∨ fm = 4 ∨ fm = 5
        · simp only [if_pos h345]
          unfold anX
          rcases h345 with rfl | rfl | rfl <;> simp
        · have n3 : ¬ fm = 3 := by omega
          have n4 : ¬ fm = 4 := by omega
          have n5 : ¬ (fm = 5 ∨ fm = 7 ∨ fm = 8) := by omega
          simp only [if_neg h345, if_neg n3, if_neg n4, if_neg n5]
theorem chl_congr {fit : Nat → Prop} [DecidablePred fit] {up up' : Nat → Int32} (hc : ∀ r r0, r < NR → r0 < NR → fit r → fit r0 → (up r = up r0 ↔ up' r = up' r0)) : ∀ (g r : Nat) (f : Option Nat), r + g = NR → (∀ r0, f = some r0 → r0 < NR ∧ fit r0) → chl fit up g r f = chl fit up' g r f := by
  intro g
  induction g with
  | zero => intro r f _ _; cases f <;> rfl
  | succ g ih =>
    intro r f hr hf
    cases f with
    | none =>
      simp only [chl]
      by_cases h : fit r
      · rw [if_pos h, if_pos h]
        exact ih _ _ (by omega) (fun r0 h0 => by cases h0; exact ⟨by omega, h⟩)
      · rw [if_neg h, if_neg h]
        exact ih _ _ (by omega) (fun r0 h0 => by cases h0)
    | some r1 =>
      obtain ⟨h1, h2⟩ := hf r1 rfl
      simp only [chl]
      by_cases h : fit r
      · rw [if_pos h, if_pos h]
        have := hc r r1 (by omega) h1 h h2
        by_cases hu : up r = up r1
        · rw [if_pos hu, if_pos (this.mp hu)]
          exact ih _ _ (by omega) (fun r0 h0 => by cases h0; exact ⟨h1, h2⟩)
        · rw [if_neg hu, if_neg (fun hx => hu (this.mpr hx))]
      · rw [if_neg h, if_neg h]
        exact ih _ _ (by omega) (fun r0 h0 => by cases h0; exact ⟨h1, h2⟩)
/-- the answer is no reading, or one of them -/
theorem chl_cases {fit : Nat → Prop} [DecidablePred fit] {up : Nat → Int32} : ∀ (g r : Nat) (f : Option Nat), r + g = NR → (∀ r0, f = some r0 → r0 < NR) → chl fit up g r f = -2 ∨ chl fit up g r f = -3 ∨ ∃ r0, r0 < NR ∧ chl fit up g r f = nI r0 := by
  intro g
  induction g with
  | zero =>
    intro r f _ hf
    cases f with
    | none => exact Or.inr (Or.inl rfl)
    | some r0 => exact Or.inr (Or.inr ⟨r0, hf r0 rfl, rfl⟩)
  | succ g ih =>
    intro r f hr hf
    cases f with
    | none =>
      simp only [chl]
      split
      · exact ih _ _ (by omega) (fun r0 h0 => by cases h0; omega)
      · exact ih _ _ (by omega) (fun r0 h0 => by cases h0)
    | some r1 =>
      simp only [chl]
      split
      · split
        · exact ih _ _ (by omega) (fun r0 h0 => by cases h0; exact hf r1 rfl)
        · exact Or.inl rfl
      · exact ih _ _ (by omega) (fun r0 h0 => by cases h0; exact hf r1 rfl)
theorem ch_eq {so at_ : Nat → Int32} (h16 : T ≤ 16) {mn : Nat → Nat → Nat → Bool} (hw : wfq nw q) (hF : YF q NR dg fm dn) : chA T so at_ q fm dn mn dg NR = chl (fun r => trk T so at_ q fm dn (mn r) (dg r) 0 (pP q) = 0) (fun r => upM T so at_ q fm dn (mn r) (dg r)) NR 0 none := by
  have hO6 : pO q ≤ 6 := by have := hw.1; have := hw.2.1; omega
  have hpp : ∀ r, r < NR → fm = 0 → dn = false → plN (pO q) (dg r) < pO q ∧ pR q (plN (pO q) (dg r)) < 2 := by
    intro r hr h0 hd
    obtain ⟨p1, p2, p3⟩ := plc_some hO6 (hF.2.2.2.2.1 (Or.inl ⟨h0, hd⟩) r hr)
    exact ⟨p1, hF.2.2.2.2.2.2 h0 r hr _ p1 p3⟩
  exact chl_congr (fun r r0 h1 h2 h3 h4 => up_eq h16 hO6 (trk_cbd h3) (trk_cbd h4) (hpp r h1) (hpp r0 h2)) NR 0 none (by omega) (fun r0 h0 => by cases h0)
end P32

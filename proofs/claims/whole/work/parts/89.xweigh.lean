section P27
variable {e : Nat} {I I2 : Nat → Nat → Int32} {L : Nat → Nat → Int64} {R : Nat → Nat → Option Nat} {a b T j n k p i nw s r NR fm : Nat} {x : Int32} {q : PhT} {tp : Nat → PhT} {td dg : Nat → Nat → Nat} {to_ : Nat → Option Nat} {it th one ln : Option Nat} {dn : Bool} {al : Nat → Nat → Bool}
theorem PH18 (h : RG R a b) : PH (71 + e) R 18 := ⟨ob_18 e, rg_18_0 h, rg_18_1 h, rg_18_2 h, rg_18_3 h, ar_19 e, ar_20 e, ar_21 e, ar_22 e, ln_19, ln_20, ln_21, ln_22⟩
/-- trouble of NP k -/
def tnp (T : Nat) (q : PhT) (mn : Nat → Nat → Bool) (k : Nat) : Int32 :=
  if pK q k = 2 then (if cn (mn k) T = 0 then 1 else if 1 < cn (mn k) T then 2 else 0)
  else if pK q k = 3 then (if cn (mn k) T = 0 then 3 else 0)
  else if pK q k < 2 then (if cn (mn k) T = 0 then 4 else 0) else 0
/-- the first trouble of k.., or the last word -/
def trf (tn : Nat → Int32) (last : Int32) : Nat → Nat → Int32
  | _, 0 => last
  | k, g + 1 => if tn k = 0 then trf tn last (k + 1) g else tn k
/-- what is to be moved -/
def mvx (T : Nat) (so : Nat → Int32) (mn : Nat → Nat → Bool) : Int32 := ff (fun x => mn 0 x = true ∧ ¬ so x = 2) 0 T
def plN (O : Nat) (d : Nat → Nat) : Nat := (plc O d).toNatClampNeg
def srt (r : Nat) : Int32 := if r = 0 then 0 else 2
/-- where to -/
def glx (T : Nat) (so at_ : Nat → Int32) (V : Nat → Bool) (sr mv : Int32) : Int32 := ff (fun y => V y = true ∧ so y = sr ∧ ¬ nI y = mv ∧ sov T at_ mv 16 (low at_ y) = false) 0 T
def mvv (T : Nat) (so : Nat → Int32) (fm : Nat) (mn : Nat → Nat → Bool) : Int32 := if fm = 0 ∨ fm = 1 then mvx T so mn else -1
def glv (T : Nat) (so at_ : Nat → Int32) (q : PhT) (fm : Nat) (dn : Bool) (mn : Nat → Nat → Bool) (d : Nat → Nat) : Int32 :=
  if fm = 1 then 17 else if fm = 0 then (if dn = true then 16 else glx T so at_ (mn (plN (pO q) d + 1)) (srt (pR q (plN (pO q) d))) (mvx T so mn)) else -1
def cbd (T : Nat) (so at_ : Nat → Int32) (q : PhT) (fm : Nat) (dn : Bool) (mn : Nat → Nat → Bool) (d : Nat → Nat) : Bool :=
  if fm = 2 then !decide (ff (fun i => at_ i = 17) 0 T = -1) else if fm = 0 ∨ fm = 1 then !decide (mvv T so fm mn = -1) && !decide (glv T so at_ q fm dn mn d = -1) else true
/-- trouble of a reading -/
def trk (T : Nat) (so at_ : Nat → Int32) (q : PhT) (fm : Nat) (dn : Bool) (mn : Nat → Nat → Bool) (d : Nat → Nat) (k g : Nat) : Int32 := trf (tnp T q mn) (if cbd T so at_ q fm dn mn d = true then 0 else 5) k g
def vbX (fm : Nat) : Nat := if fm < 6 then 11 + fm else if fm = 6 then 17 else 19
/-- the saying at hand, as the class holds it -/
def YX (I : Nat → Nat → Int32) (a T : Nat) (q : PhT) (NR : Nat) (dg : Nat → Nat → Nat) (nw : Nat) (ln : Option Nat) (fm : Nat) (dn : Bool) : Prop :=
  PX I 18 q ∧ I 23 2 = nI NR ∧ NR ≤ 264 ∧ I 23 3 = nI (pO q) ∧ (∀ r, r < NR → DX (I a r) (pO q) (dg r) ∧ wfd q (dg r)) ∧ I 15 9 = oX ln ∧ won nw ln ∧ wfq nw q ∧ I 17 4 = nI (vbX fm) ∧ I 17 7 = b01 dn ∧ (a = 24 ∨ a = 25) ∧ I 1 7 = ff (fun i => I 5 i = 17) 0 T
theorem YX_fr (h : YX I a T q NR dg nw ln fm dn) (hf : ∀ c, c < 27 ∨ 32 < c → I2 c = I c) : YX I2 a T q NR dg nw ln fm dn := by
  obtain ⟨h1, h2, h3, h4, h5, h6, h7, h8, h9, h10, h11, h12⟩ := h
  refine ⟨PX_fr h1 (fun c hc1 hc2 => hf c (by omega)), ?_, h3, ?_, ?_, ?_, h7, h8, ?_, ?_, h11, ?_⟩
  · rw [hf 23 (by omega)]; exact h2
  · rw [hf 23 (by omega)]; exact h4
  · rw [hf a (by omega)]; exact h5
  · rw [hf 15 (by omega)]; exact h6
  · rw [hf 17 (by omega)]; exact h9
  · rw [hf 17 (by omega)]; exact h10
  · rw [hf 1 (by omega), hf 5 (by omega)]; exact h12
/-- what the forms of sayings have -/
def YF (q : PhT) (NR : Nat) (dg : Nat → Nat → Nat) (fm : Nat) (dn : Bool) : Prop :=
  fm < 9 ∧ (fm ≠ 2 → 0 < pP q) ∧ (fm = 2 → pP q = 0) ∧ (fm ≤ 1 ∨ fm = 3 → pK q 0 < 4) ∧ ((fm = 0 ∧ dn = false) ∨ fm = 3 → ∀ r, r < NR → ∃ i, i < pO q ∧ dg r i = 0) ∧ (¬ ((fm = 0 ∧ dn = false) ∨ fm = 3) → ∀ r, r < NR → ∀ i, i < pO q → dg r i ≠ 0) ∧ (fm = 0 → ∀ r, r < NR → ∀ i, i < pO q → dg r i = 0 → pR q i < 2)
theorem cn_bs {V : Nat → Bool} (h16 : T ≤ 16) : (bs V T = 0) = (cn V T = 0) := by
  rw [eq_iff_iff, bs_z (by omega), cn_z]
theorem x_tnp (h16 : T ≤ 16) {mn : Nat → Nat → Bool} (hk : pK q k < 5) {h : rt_H} : Ev mX5_troubleOfNp 0 [.int (ckd (pK q k)), .int (bs (mn k) T)] [] h = some (some (.int (tnp T q mn k)), h) := by
  have hc := cn_le (mn k) T
  have e1 : (1 : Int32) = nI 1 := rfl
  have hle : (nI (cn (mn k) T) ≤ 1) = (cn (mn k) T ≤ 1) := by rw [e1, q_le (by omega) (by omega)]
  have h5 : pK q k = 0 ∨ pK q k = 1 ∨ pK q k = 2 ∨ pK q k = 3 ∨ pK q k = 4 := by omega
  unfold tnp
  rcases h5 with h | h | h | h | h <;> rw [h]
  · have : ckd 0 = 23 := rfl
    rw [this]
    have d1 : ((23 : Int32) = 21) = False := by decide
    have d2 : ((23 : Int32) = 22) = False := by decide
    simp (disch := first | exact rt_bo_0 | exact rt_bo_1 | exact ns_float | exact ns_int | exact ns_ref | assumption | omega | (simp (disch := omega) only [rt_in_0, rt_in_nI, Option.isSome_some, Option.getD_some, Bool.or_true, Bool.true_or]; done) | fail) only [e_X5_troubleOfNp_0, e_X5_troubleOfNp_1, e_X5_troubleOfNp_32, e_X5_troubleOfNp_33, e_X5_troubleOfNp_36, e_X5_troubleOfNp_37, e_X5_troubleOfNp_40, e_X5_troubleOfNp_41, e_X5_troubleOfNp_44, e_X5_troubleOfNp_45, e_X5_troubleOfNp_48, e_X5_troubleOfNp_49, e_X5_troubleOfNp_52, e_X5_troubleOfNp_53, e_X5_troubleOfNp_54, e_X5_troubleOfNp_55, e_X5_troubleOfNp_58, e_X5_troubleOfNp_59, e_X5_troubleOfNp_62, e_X5_troubleOfNp_63, e_X5_troubleOfNp_64, e_X5_troubleOfNp_65, e_X5_troubleOfNp_68, e_X5_troubleOfNp_69, e_X5_troubleOfNp_72, e_X5_troubleOfNp_73, e_X5_troubleOfNp_74, e_X5_troubleOfNp_75, d1, d2, cn_bs h16, if_true, if_false, q_sv]
    simp
  · have : ckd 1 = 24 := rfl
    rw [this]
    have d1 : ((24 : Int32) = 21) = False := by decide
    have d2 : ((24 : Int32) = 22) = False := by decide
    have d3 : ((24 : Int32) = 23) = False := by decide
    simp (disch := first | exact rt_bo_0 | exact rt_bo_1 | exact ns_float | exact ns_int | exact ns_ref | assumption | omega | (simp (disch := omega) only [rt_in_0, rt_in_nI, Option.isSome_some, Option.getD_some, Bool.or_true, Bool.true_or]; done) | fail) only [e_X5_troubleOfNp_0, e_X5_troubleOfNp_1, e_X5_troubleOfNp_32, e_X5_troubleOfNp_33, e_X5_troubleOfNp_36, e_X5_troubleOfNp_37, e_X5_troubleOfNp_40, e_X5_troubleOfNp_41, e_X5_troubleOfNp_44, e_X5_troubleOfNp_45, e_X5_troubleOfNp_48, e_X5_troubleOfNp_49, e_X5_troubleOfNp_52, e_X5_troubleOfNp_53, e_X5_troubleOfNp_54, e_X5_troubleOfNp_55, e_X5_troubleOfNp_58, e_X5_troubleOfNp_59, e_X5_troubleOfNp_62, e_X5_troubleOfNp_63, e_X5_troubleOfNp_64, e_X5_troubleOfNp_65, e_X5_troubleOfNp_68, e_X5_troubleOfNp_69, e_X5_troubleOfNp_72, e_X5_troubleOfNp_73, e_X5_troubleOfNp_74, e_X5_troubleOfNp_75, d1, d2, d3, cn_bs h16, if_true, if_false, q_sv]
    simp
  · have : ckd 2 = 21 := rfl
    rw [this]
    simp (disch := first | exact rt_bo_0 | exact rt_bo_1 | exact ns_float | exact ns_int | exact ns_ref | assumption | omega | (simp (disch := omega) only [rt_in_0, rt_in_nI, Option.isSome_some, Option.getD_some, Bool.or_true, Bool.true_or]; done) | fail) only [e_X5_troubleOfNp_0, e_X5_troubleOfNp_1, e_X5_troubleOfNp_32, e_X5_troubleOfNp_33, e_X5_troubleOfNp_36, e_X5_troubleOfNp_37, e_X5_troubleOfNp_40, e_X5_troubleOfNp_41, e_X5_troubleOfNp_44, e_X5_troubleOfNp_45, e_X5_troubleOfNp_48, e_X5_troubleOfNp_49, e_X5_troubleOfNp_52, e_X5_troubleOfNp_53, e_X5_troubleOfNp_54, e_X5_troubleOfNp_55, e_X5_troubleOfNp_58, e_X5_troubleOfNp_59, e_X5_troubleOfNp_62, e_X5_troubleOfNp_63, e_X5_troubleOfNp_64, e_X5_troubleOfNp_65, e_X5_troubleOfNp_68, e_X5_troubleOfNp_69, e_X5_troubleOfNp_72, e_X5_troubleOfNp_73, e_X5_troubleOfNp_74, e_X5_troubleOfNp_75, cn_bs h16, x_bits h16, hle, if_true, if_false, Option.getD_some, Option.bind_some, Option.toList_some, Option.toList_none, List.cons_append, List.nil_append, q_sv]
    by_cases h0 : cn (mn k) T = 0
    · simp [h0]
    · by_cases h1 : cn (mn k) T ≤ 1
      · simp [h0, h1, show ¬ 1 < cn (mn k) T by omega]
      · simp [h0, h1, show 1 < cn (mn k) T by omega]
  · have : ckd 3 = 22 := rfl
    rw [this]
    have d1 : ((22 : Int32) = 21) = False := by decide
    simp (disch := first | exact rt_bo_0 | exact rt_bo_1 | exact ns_float | exact ns_int | exact ns_ref | assumption | omega | (simp (disch := omega) only [rt_in_0, rt_in_nI, Option.isSome_some, Option.getD_some, Bool.or_true, Bool.true_or]; done) | fail) only [e_X5_troubleOfNp_0, e_X5_troubleOfNp_1, e_X5_troubleOfNp_32, e_X5_troubleOfNp_33, e_X5_troubleOfNp_36, e_X5_troubleOfNp_37, e_X5_troubleOfNp_40, e_X5_troubleOfNp_41, e_X5_troubleOfNp_44, e_X5_troubleOfNp_45, e_X5_troubleOfNp_48, e_X5_troubleOfNp_49, e_X5_troubleOfNp_52, e_X5_troubleOfNp_53, e_X5_troubleOfNp_54, e_X5_troubleOfNp_55, e_X5_troubleOfNp_58, e_X5_troubleOfNp_59, e_X5_troubleOfNp_62, e_X5_troubleOfNp_63, e_X5_troubleOfNp_64, e_X5_troubleOfNp_65, e_X5_troubleOfNp_68, e_X5_troubleOfNp_69, e_X5_troubleOfNp_72, e_X5_troubleOfNp_73, e_X5_troubleOfNp_74, e_X5_troubleOfNp_75, d1, cn_bs h16, if_true, if_false, q_sv]
    simp
  · have : ckd 4 = -1 := rfl
    rw [this]
    have d1 : ((-1 : Int32) = 21) = False := by decide
    have d2 : ((-1 : Int32) = 22) = False := by decide
    have d3 : ((-1 : Int32) = 23) = False := by decide
    have d4 : ((-1 : Int32) = 24) = False := by decide
    simp (disch := first | exact rt_bo_0 | exact rt_bo_1 | exact ns_float | exact ns_int | exact ns_ref | assumption | omega | (simp (disch := omega) only [rt_in_0, rt_in_nI, Option.isSome_some, Option.getD_some, Bool.or_true, Bool.true_or]; done) | fail) only [e_X5_troubleOfNp_0, e_X5_troubleOfNp_1, e_X5_troubleOfNp_32, e_X5_troubleOfNp_33, e_X5_troubleOfNp_36, e_X5_troubleOfNp_37, e_X5_troubleOfNp_40, e_X5_troubleOfNp_41, e_X5_troubleOfNp_44, e_X5_troubleOfNp_45, e_X5_troubleOfNp_48, e_X5_troubleOfNp_49, e_X5_troubleOfNp_52, e_X5_troubleOfNp_53, e_X5_troubleOfNp_54, e_X5_troubleOfNp_55, e_X5_troubleOfNp_58, e_X5_troubleOfNp_59, e_X5_troubleOfNp_62, e_X5_troubleOfNp_63, e_X5_troubleOfNp_64, e_X5_troubleOfNp_65, e_X5_troubleOfNp_68, e_X5_troubleOfNp_69, e_X5_troubleOfNp_72, e_X5_troubleOfNp_73, e_X5_troubleOfNp_74, e_X5_troubleOfNp_75, d1, d2, d3, d4, if_true, if_false, q_sv]
    simp
theorem x_ltm_l (hR : RG R a b) (hT : I 1 5 = nI T) (h16 : T ≤ 16) {V : Nat → Bool} : ∀ (f y : Nat), y + f = T → Ev mX5_lowestToMove 2 [.ref 27, .int (bs V T), .int (nI y)] [] (71 + e, I, L, R) = some (some (.int (ff (fun x => V x = true ∧ ¬ I 2 x = 2) y f)), (71 + e, I, L, R)) := by
  intro f
  have q0 : ∀ c : Bool, ((if c = true then (1 : Int32) else 0) = 0) = (c = false) := by intro c; cases c <;> simp
  induction f with
  | zero =>
    intro y hy
    have c : T ≤ y := by omega
    rw [e_X5_lowestToMove_2]
    simp (disch := first | exact rt_bo_0 | exact rt_bo_1 | exact ns_float | exact ns_int | exact ns_ref | assumption | omega | (simp (disch := omega) only [ob_27, rg_27_0 hR, rg_27_1 hR, rg_27_2 hR, rg_27_3 hR, ar_28, ln_28, rg_27_4 hR, ar_29, ln_29, rg_27_5 hR, ar_30, ln_30, ob_1, rg_1_0 hR, ar_2, ln_2, rg_1_1 hR, ar_3, ln_3, rg_1_2 hR, ar_4, ln_4, rg_1_3 hR, ar_5, ln_5, rg_1_4 hR, ar_6, ln_6, rt_in_nI, Option.isSome_some, Option.getD_some, Bool.or_true, Bool.true_or]; done) | fail) only [e_X5_lowestToMove_0, e_X5_lowestToMove_1, e_X5_lowestToMove_3, e_X5_lowestToMove_4, e_X5_lowestToMove_7, e_X5_lowestToMove_10, e_X5_lowestToMove_13, e_X5_lowestToMove_14, e_X5_lowestToMove_15, e_X5_lowestToMove_16, e_X5_lowestToMove_17, e_X5_lowestToMove_18, e_X5_lowestToMove_21, e_X5_lowestToMove_22, e_X5_lowestToMove_25, e_X5_lowestToMove_26, e_X5_lowestToMove_27, e_X5_lowestToMove_30, e_X5_lowestToMove_33, e_X5_lowestToMove_34, e_X5_lowestToMove_35, e_X5_lowestToMove_38, e_X5_lowestToMove_41, e_X5_lowestToMove_42, e_X3_things_0, e_X3_things_1, e_X3_things_4, rg_27_0 hR, hT, q_le, c, if_true, ff, Option.getD_some, Option.bind_some, Option.toList_some, Option.toList_none, List.cons_append, List.nil_append]
  | succ f ih =>
    intro y hy
    have c : ¬ T ≤ y := by omega
    have hyT : y < T := by omega
    have hh := ih (y + 1) (by omega)
    rw [e_X5_lowestToMove_2]
    simp (disch := first | exact rt_bo_0 | exact rt_bo_1 | exact ns_float | exact ns_int | exact ns_ref | assumption | omega | (simp (disch := omega) only [ob_27, rg_27_0 hR, rg_27_1 hR, rg_27_2 hR, rg_27_3 hR, ar_28, ln_28, rg_27_4 hR, ar_29, ln_29, rg_27_5 hR, ar_30, ln_30, ob_1, rg_1_0 hR, ar_2, ln_2, rg_1_1 hR, ar_3, ln_3, rg_1_2 hR, ar_4, ln_4, rg_1_3 hR, ar_5, ln_5, rg_1_4 hR, ar_6, ln_6, rt_in_nI, Option.isSome_some, Option.getD_some, Bool.or_true, Bool.true_or]; done) | fail) only [e_X5_lowestToMove_0, e_X5_lowestToMove_1, e_X5_lowestToMove_3, e_X5_lowestToMove_4, e_X5_lowestToMove_7, e_X5_lowestToMove_10, e_X5_lowestToMove_13, e_X5_lowestToMove_14, e_X5_lowestToMove_15, e_X5_lowestToMove_16, e_X5_lowestToMove_17, e_X5_lowestToMove_18, e_X5_lowestToMove_21, e_X5_lowestToMove_22, e_X5_lowestToMove_25, e_X5_lowestToMove_26, e_X5_lowestToMove_27, e_X5_lowestToMove_30, e_X5_lowestToMove_33, e_X5_lowestToMove_34, e_X5_lowestToMove_35, e_X5_lowestToMove_38, e_X5_lowestToMove_41, e_X5_lowestToMove_42, e_X3_things_0, e_X3_things_1, e_X3_things_4, rg_27_0 hR, hT, q_le, q_s, c, bs_bt h16 (show y < 32 by omega), q0, x_isSort_in hR hT h16 hyT, q_ite10, if_false, ff, Option.getD_some, Option.bind_some, Option.toList_some, Option.toList_none, List.cons_append, List.nil_append]
    rw [hh]
    by_cases hv : V y = true
    · by_cases h2 : I 2 y = 2
      · simp [hv, h2, hyT]
      · simp [hv, h2, hyT]
    · have hv' : V y = false := by simpa using hv
      simp [hv']
theorem x_ltm (hR : RG R a b) (hT : I 1 5 = nI T) (h16 : T ≤ 16) {V : Nat → Bool} : Ev mX5_lowestToMove 0 [.ref 27, .int (bs V T), .float 0] [] (71 + e, I, L, R) = some (some (.int (ff (fun x => V x = true ∧ ¬ I 2 x = 2) 0 T)), (71 + e, I, L, R)) := by
  have hh := x_ltm_l (e := e) (L := L) hR hT h16 (V := V) T 0 (by omega)
  rw [nI_0] at hh
  simp (disch := first | exact rt_bo_0 | exact rt_bo_1 | exact ns_float | exact ns_int | exact ns_ref | assumption | omega | (simp (disch := omega) only [ob_27, rg_27_0 hR, rg_27_1 hR, rg_27_2 hR, rg_27_3 hR, ar_28, ln_28, rg_27_4 hR, ar_29, ln_29, rg_27_5 hR, ar_30, ln_30, ob_1, rg_1_0 hR, ar_2, ln_2, rg_1_1 hR, ar_3, ln_3, rg_1_2 hR, ar_4, ln_4, rg_1_3 hR, ar_5, ln_5, rg_1_4 hR, ar_6, ln_6, rt_in_nI, Option.isSome_some, Option.getD_some, Bool.or_true, Bool.true_or]; done) | fail) only [e_X5_lowestToMove_0, e_X5_lowestToMove_1, e_X5_lowestToMove_3, e_X5_lowestToMove_4, e_X5_lowestToMove_7, e_X5_lowestToMove_10, e_X5_lowestToMove_13, e_X5_lowestToMove_14, e_X5_lowestToMove_15, e_X5_lowestToMove_16, e_X5_lowestToMove_17, e_X5_lowestToMove_18, e_X5_lowestToMove_21, e_X5_lowestToMove_22, e_X5_lowestToMove_25, e_X5_lowestToMove_26, e_X5_lowestToMove_27, e_X5_lowestToMove_30, e_X5_lowestToMove_33, e_X5_lowestToMove_34, e_X5_lowestToMove_35, e_X5_lowestToMove_38, e_X5_lowestToMove_41, e_X5_lowestToMove_42, hh]
theorem x_plc_l (hR : RG R a b) {O : Nat} (hO : I 23 3 = nI O) (h6 : O ≤ 6) {row : Int32} {d : Nat → Nat} (hr : DX row O d) (hd : ∀ i, i < O → d i ≤ i + 1) : ∀ (f i : Nat), i + f = O → Ev mX2_placeOnward 2 [.ref 23, .int row, .int (nI i)] [] (71 + e, I, L, R) = some (some (.int (ff (fun i => d i = 0) i f)), (71 + e, I, L, R)) := by
  intro f
  induction f with
  | zero =>
    intro i hi
    have c : O ≤ i := by omega
    rw [e_X2_placeOnward_2]
    simp (disch := first | exact rt_bo_0 | exact rt_bo_1 | exact ns_float | exact ns_int | exact ns_ref | assumption | omega | (simp (disch := omega) only [ob_23, rg_23_0 hR, rg_23_1 hR, rt_in_nI, Option.isSome_some, Option.getD_some, Bool.or_true, Bool.true_or]; done) | fail) only [e_X2_placeOnward_0, e_X2_placeOnward_1, e_X2_placeOnward_3, e_X2_placeOnward_4, e_X2_placeOnward_7, e_X2_placeOnward_10, e_X2_placeOnward_11, e_X2_placeOnward_12, e_X2_placeOnward_15, e_X2_placeOnward_18, e_X2_placeOnward_19, e_X2_placeOnward_20, e_X2_placeOnward_23, e_X2_placeOnward_26, e_X2_placeOnward_27, hO, q_le, c, if_true, ff, Option.getD_some, Option.bind_some, Option.toList_some, Option.toList_none, List.cons_append, List.nil_append]
  | succ f ih =>
    intro i hi
    have c : ¬ O ≤ i := by omega
    have hro := hr i (by omega)
    have hdi := hd i (by omega)
    have q0 : (nI (d i) = 0) = (d i = 0) := by rw [← nI_0, q_eq (by omega) (by omega)]
    rw [e_X2_placeOnward_2]
    simp (disch := first | exact rt_bo_0 | exact rt_bo_1 | exact ns_float | exact ns_int | exact ns_ref | assumption | omega | (simp (disch := omega) only [ob_23, rg_23_0 hR, rg_23_1 hR, rt_in_nI, Option.isSome_some, Option.getD_some, Bool.or_true, Bool.true_or]; done) | fail) only [e_X2_placeOnward_0, e_X2_placeOnward_1, e_X2_placeOnward_3, e_X2_placeOnward_4, e_X2_placeOnward_7, e_X2_placeOnward_10, e_X2_placeOnward_11, e_X2_placeOnward_12, e_X2_placeOnward_15, e_X2_placeOnward_18, e_X2_placeOnward_19, e_X2_placeOnward_20, e_X2_placeOnward_23, e_X2_placeOnward_26, e_X2_placeOnward_27, e_X2_ownerOf_0, e_X2_ownerOf_1, e_X2_ownerOf_3, e_X2_ownerOf_4, e_X2_ownerOf_5, e_X2_ownerOf_6, e_X2_ownerOf_7, e_X2_ownerOf_8, e_X2_ownerOf_10, e_X2_ownerOf_11, hO, hro, q0, q_le, q_s, c, if_false, ff, Option.getD_some, Option.bind_some, Option.toList_some, Option.toList_none, List.cons_append, List.nil_append]
    by_cases h0 : d i = 0
    · simp only [if_pos h0]
    · simp only [if_neg h0]
      exact ih (i + 1) (by omega)
theorem x_plc (hR : RG R a b) {O : Nat} (hO : I 23 3 = nI O) (h6 : O ≤ 6) {row : Int32} {d : Nat → Nat} (hr : DX row O d) (hd : ∀ i, i < O → d i ≤ i + 1) : Ev mX2_placeOnward 0 [.ref 23, .int row, .float 0] [] (71 + e, I, L, R) = some (some (.int (plc O d)), (71 + e, I, L, R)) := by
  have hh := x_plc_l (e := e) (L := L) hR hO h6 hr hd O 0 (by omega)
  rw [nI_0] at hh
  simp (disch := first | exact rt_bo_0 | exact rt_bo_1 | exact ns_float | exact ns_int | exact ns_ref | assumption | omega | (simp (disch := omega) only [ob_23, rg_23_0 hR, rg_23_1 hR, rt_in_nI, Option.isSome_some, Option.getD_some, Bool.or_true, Bool.true_or]; done) | fail) only [e_X2_placeOnward_0, e_X2_placeOnward_1, e_X2_placeOnward_3, e_X2_placeOnward_4, e_X2_placeOnward_7, e_X2_placeOnward_10, e_X2_placeOnward_11, e_X2_placeOnward_12, e_X2_placeOnward_15, e_X2_placeOnward_18, e_X2_placeOnward_19, e_X2_placeOnward_20, e_X2_placeOnward_23, e_X2_placeOnward_26, e_X2_placeOnward_27, hh]
  rfl
theorem plc_some {O : Nat} {d : Nat → Nat} (h6 : O ≤ 6) (h : ∃ i, i < O ∧ d i = 0) : plN O d < O ∧ plc O d = nI (plN O d) ∧ d (plN O d) = 0 := by
  obtain ⟨i, h1, h2⟩ := h
  unfold plN plc
  rcases ff_cases (fun i => d i = 0) O 0 with ⟨-, g⟩ | ⟨j, -, g2, g3, g4, -⟩
  · exact absurd h2 (g i (by omega) (by omega))
  · rw [g4, nI_cl (by omega)]
    exact ⟨by omega, rfl, g3⟩
theorem plc_none {O : Nat} {d : Nat → Nat} (h : ∀ i, i < O → d i ≠ 0) : plc O d = -1 := ff_none (fun i _ hi => h i (by omega))
theorem x_goal_l (hR : RG R a b) (hT : I 1 5 = nI T) (h16 : T ≤ 16) (hO : RoomOK T (I 2) (I 5)) {V : Nat → Bool} {v1 v2 v3 : Value} {sr : Int32} : ∀ (f y : Nat), y + f = T → Ev mX5_goalOf 50 [.ref 27, v1, v2, v3, .int (bs V T), .int sr, .int (nI y)] [] (71 + e, I, L, R) = some (some (.int (ff (fun y => V y = true ∧ I 2 y = sr ∧ ¬ nI y = I 27 8 ∧ sov T (I 5) (I 27 8) 16 (low (I 5) y) = false) y f)), (71 + e, I, L, R)) := by
  intro f
  have q0 : ∀ c : Bool, ((if c = true then (1 : Int32) else 0) = 0) = (c = false) := by intro c; cases c <;> simp
  induction f with
  | zero =>
    intro y hy
    have c : T ≤ y := by omega
    rw [e_X5_goalOf_50]
    simp (disch := first | exact rt_bo_0 | exact rt_bo_1 | exact ns_float | exact ns_int | exact ns_ref | assumption | omega | (simp (disch := omega) only [ob_27, rg_27_0 hR, rg_27_1 hR, rg_27_2 hR, rg_27_3 hR, ar_28, ln_28, rg_27_4 hR, ar_29, ln_29, rg_27_5 hR, ar_30, ln_30, ob_1, rg_1_0 hR, ar_2, ln_2, rg_1_1 hR, ar_3, ln_3, rg_1_2 hR, ar_4, ln_4, rg_1_3 hR, ar_5, ln_5, rg_1_4 hR, ar_6, ln_6, rt_in_nI, Option.isSome_some, Option.getD_some, Bool.or_true, Bool.true_or]; done) | fail) only [e_X5_goalOf_0, e_X5_goalOf_1, e_X5_goalOf_4, e_X5_goalOf_5, e_X5_goalOf_8, e_X5_goalOf_9, e_X5_goalOf_10, e_X5_goalOf_11, e_X5_goalOf_14, e_X5_goalOf_15, e_X5_goalOf_18, e_X5_goalOf_19, e_X5_goalOf_20, e_X5_goalOf_21, e_X5_goalOf_22, e_X5_goalOf_25, e_X5_goalOf_27, e_X5_goalOf_28, e_X5_goalOf_31, e_X5_goalOf_32, e_X5_goalOf_35, e_X5_goalOf_37, e_X5_goalOf_40, e_X5_goalOf_41, e_X5_goalOf_44, e_X5_goalOf_45, e_X5_goalOf_47, e_X5_goalOf_48, e_X5_goalOf_52, e_X5_goalOf_53, e_X5_goalOf_56, e_X5_goalOf_59, e_X5_goalOf_62, e_X5_goalOf_64, e_X5_goalOf_66, e_X5_goalOf_67, e_X5_goalOf_68, e_X5_goalOf_69, e_X5_goalOf_72, e_X5_goalOf_73, e_X5_goalOf_76, e_X5_goalOf_78, e_X5_goalOf_80, e_X5_goalOf_83, e_X5_goalOf_86, e_X5_goalOf_88, e_X5_goalOf_89, e_X5_goalOf_92, e_X5_goalOf_95, e_X5_goalOf_96, e_X5_goalOf_99, e_X5_goalOf_101, e_X5_goalOf_102, e_X5_goalOf_105, e_X5_goalOf_108, e_X5_goalOf_111, e_X5_goalOf_113, e_X5_goalOf_114, e_X5_goalOf_117, e_X5_goalOf_120, e_X5_goalOf_121, e_X3_things_0, e_X3_things_1, e_X3_things_4, rg_27_0 hR, hT, q_le, c, if_true, ff, Option.getD_some, Option.bind_some, Option.toList_some, Option.toList_none, List.cons_append, List.nil_append]
  | succ f ih =>
    intro y hy
    have c : ¬ T ≤ y := by omega
    have hyT : y < T := by omega
    have hh := ih (y + 1) (by omega)
    rw [e_X5_goalOf_50]
    simp (disch := first | exact rt_bo_0 | exact rt_bo_1 | exact ns_float | exact ns_int | exact ns_ref | assumption | omega | (simp (disch := omega) only [ob_27, rg_27_0 hR, rg_27_1 hR, rg_27_2 hR, rg_27_3 hR, ar_28, ln_28, rg_27_4 hR, ar_29, ln_29, rg_27_5 hR, ar_30, ln_30, ob_1, rg_1_0 hR, ar_2, ln_2, rg_1_1 hR, ar_3, ln_3, rg_1_2 hR, ar_4, ln_4, rg_1_3 hR, ar_5, ln_5, rg_1_4 hR, ar_6, ln_6, rt_in_nI, Option.isSome_some, Option.getD_some, Bool.or_true, Bool.true_or]; done) | fail) only [e_X5_goalOf_0, e_X5_goalOf_1, e_X5_goalOf_4, e_X5_goalOf_5, e_X5_goalOf_8, e_X5_goalOf_9, e_X5_goalOf_10, e_X5_goalOf_11, e_X5_goalOf_14, e_X5_goalOf_15, e_X5_goalOf_18, e_X5_goalOf_19, e_X5_goalOf_20, e_X5_goalOf_21, e_X5_goalOf_22, e_X5_goalOf_25, e_X5_goalOf_27, e_X5_goalOf_28, e_X5_goalOf_31, e_X5_goalOf_32, e_X5_goalOf_35, e_X5_goalOf_37, e_X5_goalOf_40, e_X5_goalOf_41, e_X5_goalOf_44, e_X5_goalOf_45, e_X5_goalOf_47, e_X5_goalOf_48, e_X5_goalOf_52, e_X5_goalOf_53, e_X5_goalOf_56, e_X5_goalOf_59, e_X5_goalOf_62, e_X5_goalOf_64, e_X5_goalOf_66, e_X5_goalOf_67, e_X5_goalOf_68, e_X5_goalOf_69, e_X5_goalOf_72, e_X5_goalOf_73, e_X5_goalOf_76, e_X5_goalOf_78, e_X5_goalOf_80, e_X5_goalOf_83, e_X5_goalOf_86, e_X5_goalOf_88, e_X5_goalOf_89, e_X5_goalOf_92, e_X5_goalOf_95, e_X5_goalOf_96, e_X5_goalOf_99, e_X5_goalOf_101, e_X5_goalOf_102, e_X5_goalOf_105, e_X5_goalOf_108, e_X5_goalOf_111, e_X5_goalOf_113, e_X5_goalOf_114, e_X5_goalOf_117, e_X5_goalOf_120, e_X5_goalOf_121, e_X3_things_0, e_X3_things_1, e_X3_things_4, rg_27_0 hR, hT, q_le, q_s, c, bs_bt h16 (show y < 32 by omega), q0, x_isSort_in hR hT h16 hyT, x_stands hR hT h16 hO hyT, b01_0, q_ite10, if_false, ff, Option.getD_some, Option.bind_some, Option.toList_some, Option.toList_none, List.cons_append, List.nil_append]
    rw [hh]
    by_cases hv : V y = true
    · by_cases h2 : I 2 y = sr
      · by_cases h3 : nI y = I 27 8
        · simp [hv, h2, h3, hyT]
        · by_cases h4 : sov T (I 5) (I 27 8) 16 (low (I 5) y) = false <;> simp [hv, h2, h3, hyT, h4]
      · simp [hv, h2, hyT]
    · have hv' : V y = false := by simpa using hv
      simp [hv']
theorem x_goal (hR : RG R a b) (hT : I 1 5 = nI T) (h16 : T ≤ 16) (hO : RoomOK T (I 2) (I 5)) (hy : YX I a T q NR dg nw ln fm dn) (hr : r < NR) (hpl : ∃ i, i < pO q ∧ dg r i = 0) {mn : Nat → Nat → Bool} (hm : ∀ j, j < pP q → I 29 j = bs (mn j) T) :
    Ev mX5_goalOf 0 [.ref 27, .ref 17, .int (I a r), .float 0, .float 0, .float 0, .float 0] [] (71 + e, I, L, R) = some (some (.int (glx T (I 2) (I 5) (mn (plN (pO q) (dg r) + 1)) (srt (pR q (plN (pO q) (dg r)))) (I 27 8))), (71 + e, I, L, R)) := by
  obtain ⟨y1, y2, y3, y4, y5, y6, y7, y8, -⟩ := hy
  have hO6 : pO q ≤ 6 := by have := y8.1; have := y8.2.1; omega
  obtain ⟨p1, p2, p3⟩ := plc_some hO6 hpl
  have hP : pP q = pO q + 1 := by have := y8.2.1; omega
  have hP7 := y8.1
  have hx := x_plc (e := e) (I := I) (L := L) hR y4 hO6 (y5 r hr).1 (fun i hi => ((y5 r hr).2 i hi).1)
  rw [p2] at hx
  have hme := x_meantBy (e := e) (I := I) (L := L) (k := plN (pO q) (dg r) + 1) hR (by omega)
  rw [hm _ (by omega)] at hme
  have hrr := y8.2.2.2 _ p1
  have hrel := x_relation (e := e) (I := I) (L := L) (PH18 hR) y1 hO6 p1
  have hl := fun (sr : Int32) => x_goal_l (e := e) (L := L) (v1 := .ref 17) (v2 := .int (I a r)) (v3 := .int (nI (plN (pO q) (dg r)))) hR hT h16 hO (V := mn (plN (pO q) (dg r) + 1)) (sr := sr) T 0 (by omega)
  simp only [nI_0] at hl
  have e25 : (25 : Int32) = nI 25 := rfl
  by_cases h0 : pR q (plN (pO q) (dg r)) = 0
  · have c : 25 + pR q (plN (pO q) (dg r)) = 25 := by omega
    have hs : srt (pR q (plN (pO q) (dg r))) = 0 := if_pos h0
    rw [hs]
    simp (disch := first | exact rt_bo_0 | exact rt_bo_1 | exact ns_float | exact ns_int | exact ns_ref | assumption | omega | (simp (disch := omega) only [ob_27, rg_27_0 hR, rg_27_1 hR, rg_27_2 hR, rg_27_3 hR, ar_28, ln_28, rg_27_4 hR, ar_29, ln_29, rg_27_5 hR, ar_30, ln_30, ob_1, rg_1_0 hR, ar_2, ln_2, rg_1_1 hR, ar_3, ln_3, rg_1_2 hR, ar_4, ln_4, rg_1_3 hR, ar_5, ln_5, rg_1_4 hR, ar_6, ln_6, ob_17, rg_17_0 hR, rg_17_1 hR, rg_17_2 hR, ar_26, ln_26, ob_23, rg_23_0 hR, rg_23_1 hR, ob_18, rg_18_0 hR, ar_19, ln_19, rg_18_1 hR, ar_20, ln_20, rg_18_2 hR, ar_21, ln_21, rg_18_3 hR, ar_22, ln_22, rt_in_nI, Option.isSome_some, Option.getD_some, Bool.or_true, Bool.true_or]; done) | fail) only [e_X5_goalOf_0, e_X5_goalOf_1, e_X5_goalOf_4, e_X5_goalOf_5, e_X5_goalOf_8, e_X5_goalOf_9, e_X5_goalOf_10, e_X5_goalOf_11, e_X5_goalOf_14, e_X5_goalOf_15, e_X5_goalOf_18, e_X5_goalOf_19, e_X5_goalOf_20, e_X5_goalOf_21, e_X5_goalOf_22, e_X5_goalOf_25, e_X5_goalOf_27, e_X5_goalOf_28, e_X5_goalOf_31, e_X5_goalOf_32, e_X5_goalOf_35, e_X5_goalOf_37, e_X5_goalOf_40, e_X5_goalOf_41, e_X5_goalOf_44, e_X5_goalOf_45, e_X5_goalOf_47, e_X5_goalOf_48, e_X5_goalOf_52, e_X5_goalOf_53, e_X5_goalOf_56, e_X5_goalOf_59, e_X5_goalOf_62, e_X5_goalOf_64, e_X5_goalOf_66, e_X5_goalOf_67, e_X5_goalOf_68, e_X5_goalOf_69, e_X5_goalOf_72, e_X5_goalOf_73, e_X5_goalOf_76, e_X5_goalOf_78, e_X5_goalOf_80, e_X5_goalOf_83, e_X5_goalOf_86, e_X5_goalOf_88, e_X5_goalOf_89, e_X5_goalOf_92, e_X5_goalOf_95, e_X5_goalOf_96, e_X5_goalOf_99, e_X5_goalOf_101, e_X5_goalOf_102, e_X5_goalOf_105, e_X5_goalOf_108, e_X5_goalOf_111, e_X5_goalOf_113, e_X5_goalOf_114, e_X5_goalOf_117, e_X5_goalOf_120, e_X5_goalOf_121, rg_17_1 hR, rg_17_0 hR, hx, hme, hrel, hl, e25, q_e1, q_eq, q_s, c, if_true, if_false, Option.getD_some, Option.bind_some, Option.toList_some, Option.toList_none, List.cons_append, List.nil_append]
    rfl
  · have c : ¬ 25 + pR q (plN (pO q) (dg r)) = 25 := by omega
    have hs : srt (pR q (plN (pO q) (dg r))) = 2 := if_neg h0
    rw [hs]
    simp (disch := first | exact rt_bo_0 | exact rt_bo_1 | exact ns_float | exact ns_int | exact ns_ref | assumption | omega | (simp (disch := omega) only [ob_27, rg_27_0 hR, rg_27_1 hR, rg_27_2 hR, rg_27_3 hR, ar_28, ln_28, rg_27_4 hR, ar_29, ln_29, rg_27_5 hR, ar_30, ln_30, ob_1, rg_1_0 hR, ar_2, ln_2, rg_1_1 hR, ar_3, ln_3, rg_1_2 hR, ar_4, ln_4, rg_1_3 hR, ar_5, ln_5, rg_1_4 hR, ar_6, ln_6, ob_17, rg_17_0 hR, rg_17_1 hR, rg_17_2 hR, ar_26, ln_26, ob_23, rg_23_0 hR, rg_23_1 hR, ob_18, rg_18_0 hR, ar_19, ln_19, rg_18_1 hR, ar_20, ln_20, rg_18_2 hR, ar_21, ln_21, rg_18_3 hR, ar_22, ln_22, rt_in_nI, Option.isSome_some, Option.getD_some, Bool.or_true, Bool.true_or]; done) | fail) only [e_X5_goalOf_0, e_X5_goalOf_1, e_X5_goalOf_4, e_X5_goalOf_5, e_X5_goalOf_8, e_X5_goalOf_9, e_X5_goalOf_10, e_X5_goalOf_11, e_X5_goalOf_14, e_X5_goalOf_15, e_X5_goalOf_18, e_X5_goalOf_19, e_X5_goalOf_20, e_X5_goalOf_21, e_X5_goalOf_22, e_X5_goalOf_25, e_X5_goalOf_27, e_X5_goalOf_28, e_X5_goalOf_31, e_X5_goalOf_32, e_X5_goalOf_35, e_X5_goalOf_37, e_X5_goalOf_40, e_X5_goalOf_41, e_X5_goalOf_44, e_X5_goalOf_45, e_X5_goalOf_47, e_X5_goalOf_48, e_X5_goalOf_52, e_X5_goalOf_53, e_X5_goalOf_56, e_X5_goalOf_59, e_X5_goalOf_62, e_X5_goalOf_64, e_X5_goalOf_66, e_X5_goalOf_67, e_X5_goalOf_68, e_X5_goalOf_69, e_X5_goalOf_72, e_X5_goalOf_73, e_X5_goalOf_76, e_X5_goalOf_78, e_X5_goalOf_80, e_X5_goalOf_83, e_X5_goalOf_86, e_X5_goalOf_88, e_X5_goalOf_89, e_X5_goalOf_92, e_X5_goalOf_95, e_X5_goalOf_96, e_X5_goalOf_99, e_X5_goalOf_101, e_X5_goalOf_102, e_X5_goalOf_105, e_X5_goalOf_108, e_X5_goalOf_111, e_X5_goalOf_113, e_X5_goalOf_114, e_X5_goalOf_117, e_X5_goalOf_120, e_X5_goalOf_121, rg_17_1 hR, rg_17_0 hR, hx, hme, hrel, hl, e25, q_e1, q_eq, q_s, c, if_true, if_false, Option.getD_some, Option.bind_some, Option.toList_some, Option.toList_none, List.cons_append, List.nil_append]
    rfl
end P27

section P21
variable {e : Nat} {I I2 : Nat → Nat → Int32} {L : Nat → Nat → Int64} {R : Nat → Nat → Option Nat} {a b T j n k p i : Nat} {x : Int32} {q : PhT}
theorem rt_up_f {α : Type} {f : Nat → Nat → α} {i k c : Nat} {v : α} (h : c ≠ i) : rt_up f i k v c = f c := by unfold rt_up; rw [if_neg h]
theorem PX_fr (hq : PX I p q) (hf : ∀ c, p ≤ c → c ≤ p + 4 → I2 c = I c) : PX I2 p q := by
  unfold PX at hq ⊢
  rw [hf p (by omega) (by omega), hf (p + 1) (by omega) (by omega), hf (p + 2) (by omega) (by omega), hf (p + 3) (by omega) (by omega), hf (p + 4) (by omega) (by omega)]
  exact hq
/-- the digits of a row as the class asks for them -/
def DX (row : Int32) (O : Nat) (dg : Nat → Nat) : Prop := ∀ i, i < O → (row >>> ((20 - 4 * nI i) &&& 31)) &&& 15 = nI (dg i)
/-- the links of NP k, by the first n onwards -/
def lks (T : Nat) (so at_ : Nat → Int32) (q : PhT) (dg : Nat → Nat) (S : Nat → Nat → Bool) (k x n : Nat) : Bool := alb (fun i => decide (i < k) || !decide (dg i = k + 1) || lkd T so at_ (pR q i) (S (i + 1)) x) n
/-- what NPs mean, the last g of them -/
def mnt (T : Nat) (so at_ : Nat → Int32) (q : PhT) (dg : Nat → Nat) (al : Nat → Nat → Bool) : Nat → Nat → Nat → Bool
  | 0 => fun _ _ => false
  | f + 1 => fun k x => if k = pP q - 1 - f then al k x && lks T so at_ q dg (mnt T so at_ q dg al f) k x (pO q) else mnt T so at_ q dg al f k x
def mng (T : Nat) (so at_ : Nat → Int32) (q : PhT) (dg : Nat → Nat) (al : Nat → Nat → Bool) : Nat → Nat → Bool := mnt T so at_ q dg al (pP q)
theorem x_meantBy (hR : RG R a b) (hk : k < 7) : Ev mX5_meantBy 0 [.ref 27, .int (nI k)] [] (71 + e, I, L, R) = some (some (.int (I 29 k)), (71 + e, I, L, R)) := by
  have e7 : (7 : Int32) = nI 7 := rfl
  have c : ¬ 7 ≤ k := by omega
  simp (disch := first | exact rt_bo_0 | exact rt_bo_1 | exact ns_float | exact ns_int | exact ns_ref | assumption | omega | (simp (disch := omega) only [ob_27, rg_27_0 hR, rg_27_1 hR, rg_27_2 hR, rg_27_3 hR, ar_28, ln_28, rg_27_4 hR, ar_29, ln_29, rg_27_5 hR, ar_30, ln_30, ob_1, rg_1_0 hR, ar_2, ln_2, rg_1_1 hR, ar_3, ln_3, rg_1_2 hR, ar_4, ln_4, rg_1_3 hR, ar_5, ln_5, rg_1_4 hR, ar_6, ln_6, ob_15, rg_15_0 hR, ar_16, ln_16, rt_in_nI, Option.isSome_some, Option.getD_some, Bool.or_true, Bool.true_or]; done) | fail) only [e_X5_meantBy_0, e_X5_meantBy_1, e_X5_meantBy_4, e_X5_meantBy_5, e_X5_meantBy_7, e_X5_meantBy_10, e_X5_meantBy_11, e_X5_meantBy_14, e_X5_meantBy_15, e_X5_meantBy_16, e_X5_meantBy_19, e_X5_meantBy_20, e7, q_le, q_l0, c, rg_27_4 hR, nI_cl, if_false, Option.getD_some, Option.bind_some, Option.toList_some, Option.toList_none, List.cons_append, List.nil_append]
theorem x_link_i (hR : RG R a b) (hT : I 1 5 = nI T) (h16 : T ≤ 16) (hO : RoomOK T (I 2) (I 5)) (hp : PH (71 + e) R p) (hq : PX I p q) {nw : Nat} (hw : wfq nw q) {dg : Nat → Nat} (hd : wfd q dg) {row : Int32} (hrow : DX row (pO q) dg) {S : Nat → Nat → Bool} (hk : k < pP q) (hS : ∀ j, k < j → j < pP q → I 29 j = bs (S j) T) {A : Nat → Bool} :
    ∀ (f i : Nat), i + f = pO q → k ≤ i → Ev mX5_linkAll 27 [.ref 27, .ref p, .int row, .int (nI k), .int (bs (fun x => A x && lks T (I 2) (I 5) q dg S k x i) T), .int (nI i)] [] (71 + e, I, L, R) = Ev mX5_linkAll 79 [.ref 27, .ref p, .int row, .int (nI k), .int (bs (fun x => A x && lks T (I 2) (I 5) q dg S k x (pO q)) T), .int (nI (pO q))] [] (71 + e, I, L, R) := by
  intro f
  have o1 := hp.1
  have hO6 : pO q ≤ 6 := by have := hw.1; have := hw.2.1; omega
  have hPO : pP q = pO q + 1 := by have := hw.2.1; omega
  have q2 := hq.2.1
  induction f with
  | zero =>
    intro i hi hki
    have hi' : i = pO q := by omega
    subst hi'
    rw [e_X5_linkAll_27]
    simp (disch := first | exact rt_bo_0 | exact rt_bo_1 | exact ns_float | exact ns_int | exact ns_ref | assumption | omega | (simp (disch := omega) only [ob_27, rg_27_0 hR, rg_27_1 hR, rg_27_2 hR, rg_27_3 hR, ar_28, ln_28, rg_27_4 hR, ar_29, ln_29, rg_27_5 hR, ar_30, ln_30, ob_1, rg_1_0 hR, ar_2, ln_2, rg_1_1 hR, ar_3, ln_3, rg_1_2 hR, ar_4, ln_4, rg_1_3 hR, ar_5, ln_5, rg_1_4 hR, ar_6, ln_6, ob_15, rg_15_0 hR, ar_16, ln_16, o1, rt_in_nI, Option.isSome_some, Option.getD_some, Bool.or_true, Bool.true_or]; done) | fail) only [e_X5_linkAll_0, e_X5_linkAll_1, e_X5_linkAll_4, e_X5_linkAll_6, e_X5_linkAll_9, e_X5_linkAll_10, e_X5_linkAll_11, e_X5_linkAll_13, e_X5_linkAll_16, e_X5_linkAll_17, e_X5_linkAll_20, e_X5_linkAll_21, e_X5_linkAll_22, e_X5_linkAll_24, e_X5_linkAll_25, e_X5_linkAll_29, e_X5_linkAll_30, e_X5_linkAll_33, e_X5_linkAll_36, e_X5_linkAll_37, e_X5_linkAll_39, e_X5_linkAll_42, e_X5_linkAll_43, e_X5_linkAll_44, e_X5_linkAll_45, e_X5_linkAll_48, e_X5_linkAll_49, e_X5_linkAll_52, e_X5_linkAll_54, e_X5_linkAll_55, e_X5_linkAll_57, e_X5_linkAll_60, e_X5_linkAll_61, e_X5_linkAll_63, e_X5_linkAll_64, e_X5_linkAll_65, e_X5_linkAll_68, e_X5_linkAll_71, e_X5_linkAll_73, e_X5_linkAll_76, e_X5_linkAll_80, e_X5_linkAll_83, e_X5_linkAll_84, e_X5_linkAll_86, e_X5_linkAll_87, e_X5_linkAll_90, e_X5_linkAll_93, e_X1_onwards_0, e_X1_onwards_1, e_X1_onwards_4, q2, q_le, Nat.le_refl, if_true, Option.getD_some, Option.bind_some, Option.toList_some, Option.toList_none, List.cons_append, List.nil_append]
  | succ f ih =>
    intro i hi hki
    have c : ¬ pO q ≤ i := by omega
    have hdi := (hd i (by omega)).1
    have hrr := hw.2.2.2 i (by omega)
    have hro := hrow i (by omega)
    have hh := ih (i + 1) (by omega) (by omega)
    rw [e_X5_linkAll_27]
    by_cases hc : dg i = k + 1
    · have hme := x_meantBy (e := e) (I := I) (L := L) (k := i + 1) hR (by omega)
      rw [hS (i + 1) (by omega) (by omega)] at hme
      simp (disch := first | exact rt_bo_0 | exact rt_bo_1 | exact ns_float | exact ns_int | exact ns_ref | assumption | omega | (simp (disch := omega) only [ob_27, rg_27_0 hR, rg_27_1 hR, rg_27_2 hR, rg_27_3 hR, ar_28, ln_28, rg_27_4 hR, ar_29, ln_29, rg_27_5 hR, ar_30, ln_30, ob_1, rg_1_0 hR, ar_2, ln_2, rg_1_1 hR, ar_3, ln_3, rg_1_2 hR, ar_4, ln_4, rg_1_3 hR, ar_5, ln_5, rg_1_4 hR, ar_6, ln_6, ob_15, rg_15_0 hR, ar_16, ln_16, o1, rt_in_nI, Option.isSome_some, Option.getD_some, Bool.or_true, Bool.true_or]; done) | fail) only [e_X5_linkAll_0, e_X5_linkAll_1, e_X5_linkAll_4, e_X5_linkAll_6, e_X5_linkAll_9, e_X5_linkAll_10, e_X5_linkAll_11, e_X5_linkAll_13, e_X5_linkAll_16, e_X5_linkAll_17, e_X5_linkAll_20, e_X5_linkAll_21, e_X5_linkAll_22, e_X5_linkAll_24, e_X5_linkAll_25, e_X5_linkAll_29, e_X5_linkAll_30, e_X5_linkAll_33, e_X5_linkAll_36, e_X5_linkAll_37, e_X5_linkAll_39, e_X5_linkAll_42, e_X5_linkAll_43, e_X5_linkAll_44, e_X5_linkAll_45, e_X5_linkAll_48, e_X5_linkAll_49, e_X5_linkAll_52, e_X5_linkAll_54, e_X5_linkAll_55, e_X5_linkAll_57, e_X5_linkAll_60, e_X5_linkAll_61, e_X5_linkAll_63, e_X5_linkAll_64, e_X5_linkAll_65, e_X5_linkAll_68, e_X5_linkAll_71, e_X5_linkAll_73, e_X5_linkAll_76, e_X5_linkAll_80, e_X5_linkAll_83, e_X5_linkAll_84, e_X5_linkAll_86, e_X5_linkAll_87, e_X5_linkAll_90, e_X5_linkAll_93, e_X1_onwards_0, e_X1_onwards_1, e_X1_onwards_4, e_X2_ownerOf_0, e_X2_ownerOf_1, e_X2_ownerOf_3, e_X2_ownerOf_4, e_X2_ownerOf_5, e_X2_ownerOf_6, e_X2_ownerOf_7, e_X2_ownerOf_8, e_X2_ownerOf_10, e_X2_ownerOf_11, q2, q_le, c, hro, hc, q_s, rg_27_0 hR, x_relation hp hq hO6 (show i < pO q by omega), hme, x_related hR hT h16 hO hrr, if_true, if_false, Option.getD_some, Option.bind_some, Option.toList_some, Option.toList_none, List.cons_append, List.nil_append]
      rw [← hh]
      rw [bs_congr (by omega) (fun x _ => ?_)]
      show _ = (A x && (lks T (I 2) (I 5) q dg S k x i && (decide (i < k) || !decide (dg i = k + 1) || lkd T (I 2) (I 5) (pR q i) (S (i + 1)) x)))
      simp [hc, show ¬ i < k by omega, Bool.and_assoc]
    · have c2 : (dg i = k + 1) = False := eq_false hc
      simp (disch := first | exact rt_bo_0 | exact rt_bo_1 | exact ns_float | exact ns_int | exact ns_ref | assumption | omega | (simp (disch := omega) only [ob_27, rg_27_0 hR, rg_27_1 hR, rg_27_2 hR, rg_27_3 hR, ar_28, ln_28, rg_27_4 hR, ar_29, ln_29, rg_27_5 hR, ar_30, ln_30, ob_1, rg_1_0 hR, ar_2, ln_2, rg_1_1 hR, ar_3, ln_3, rg_1_2 hR, ar_4, ln_4, rg_1_3 hR, ar_5, ln_5, rg_1_4 hR, ar_6, ln_6, ob_15, rg_15_0 hR, ar_16, ln_16, o1, rt_in_nI, Option.isSome_some, Option.getD_some, Bool.or_true, Bool.true_or]; done) | fail) only [e_X5_linkAll_0, e_X5_linkAll_1, e_X5_linkAll_4, e_X5_linkAll_6, e_X5_linkAll_9, e_X5_linkAll_10, e_X5_linkAll_11, e_X5_linkAll_13, e_X5_linkAll_16, e_X5_linkAll_17, e_X5_linkAll_20, e_X5_linkAll_21, e_X5_linkAll_22, e_X5_linkAll_24, e_X5_linkAll_25, e_X5_linkAll_29, e_X5_linkAll_30, e_X5_linkAll_33, e_X5_linkAll_36, e_X5_linkAll_37, e_X5_linkAll_39, e_X5_linkAll_42, e_X5_linkAll_43, e_X5_linkAll_44, e_X5_linkAll_45, e_X5_linkAll_48, e_X5_linkAll_49, e_X5_linkAll_52, e_X5_linkAll_54, e_X5_linkAll_55, e_X5_linkAll_57, e_X5_linkAll_60, e_X5_linkAll_61, e_X5_linkAll_63, e_X5_linkAll_64, e_X5_linkAll_65, e_X5_linkAll_68, e_X5_linkAll_71, e_X5_linkAll_73, e_X5_linkAll_76, e_X5_linkAll_80, e_X5_linkAll_83, e_X5_linkAll_84, e_X5_linkAll_86, e_X5_linkAll_87, e_X5_linkAll_90, e_X5_linkAll_93, e_X1_onwards_0, e_X1_onwards_1, e_X1_onwards_4, e_X2_ownerOf_0, e_X2_ownerOf_1, e_X2_ownerOf_3, e_X2_ownerOf_4, e_X2_ownerOf_5, e_X2_ownerOf_6, e_X2_ownerOf_7, e_X2_ownerOf_8, e_X2_ownerOf_10, e_X2_ownerOf_11, q2, q_le, c, hro, q_s, q_eq, c2, if_true, if_false, Option.getD_some, Option.bind_some, Option.toList_some, Option.toList_none, List.cons_append, List.nil_append]
      rw [← hh]
      rw [bs_congr (by omega) (fun x _ => ?_)]
      show _ = (A x && (lks T (I 2) (I 5) q dg S k x i && (decide (i < k) || !decide (dg i = k + 1) || lkd T (I 2) (I 5) (pR q i) (S (i + 1)) x)))
      simp [hc]
theorem lks_k {T : Nat} {so at_ : Nat → Int32} {q : PhT} {dg : Nat → Nat} {S : Nat → Nat → Bool} {k x : Nat} : lks T so at_ q dg S k x k = true := by
  unfold lks
  rw [alb_iff]
  intro i hi
  simp [hi]
theorem x_link_l (hR : RG R a b) (h16 : T ≤ 16) (hp : PH (71 + e) R p) (hpp : p = 18 ∨ 71 ≤ p) {nw : Nat} (hw : wfq nw q) {dg : Nat → Nat} (hd : wfd q dg) {row : Int32} (hrow : DX row (pO q) dg) {so at_ : Nat → Int32} (hO : RoomOK T so at_) {al : Nat → Nat → Bool} :
    ∀ (g f : Nat) (I : Nat → Nat → Int32) (v1 v2 : Value), f + g = pP q → I 1 5 = nI T → I 2 = so → I 5 = at_ → PX I p q → (∀ k, k < pP q → I 28 k = bs (al k) T) → (∀ j, g ≤ j → j < pP q → I 29 j = bs (mnt T so at_ q dg al f j) T) → rt_ns v1 = true → rt_ns v2 = true →
    ∃ I2, Ev mX5_linkAll 12 [.ref 27, .ref p, .int row, .int (nI g + (-1)), v1, v2] [] (71 + e, I, L, R) = some (none, (71 + e, I2, L, R)) ∧ (∀ c, c ≠ 29 → I2 c = I c) ∧ ∀ j, j < pP q → I2 29 j = bs (mng T so at_ q dg al j) T := by
  intro g
  have o1 := hp.1
  have hP7 := hw.1
  induction g with
  | zero =>
    intro f I v1 v2 hf hT h2 h5 hq hal hj n1 n2
    have d : (nI 0 + (-1 : Int32) < 0) = True := by decide
    refine ⟨I, ?_, fun _ _ => rfl, fun j hj2 => ?_⟩
    · rw [e_X5_linkAll_12]
      simp (disch := first | exact rt_bo_0 | exact rt_bo_1 | exact ns_float | exact ns_int | exact ns_ref | assumption | omega | (simp (disch := omega) only [ob_27, rg_27_0 hR, rg_27_1 hR, rg_27_2 hR, rg_27_3 hR, ar_28, ln_28, rg_27_4 hR, ar_29, ln_29, rg_27_5 hR, ar_30, ln_30, ob_1, rg_1_0 hR, ar_2, ln_2, rg_1_1 hR, ar_3, ln_3, rg_1_2 hR, ar_4, ln_4, rg_1_3 hR, ar_5, ln_5, rg_1_4 hR, ar_6, ln_6, ob_15, rg_15_0 hR, ar_16, ln_16, o1, rt_in_nI, Option.isSome_some, Option.getD_some, Bool.or_true, Bool.true_or]; done) | fail) only [e_X5_linkAll_0, e_X5_linkAll_1, e_X5_linkAll_4, e_X5_linkAll_6, e_X5_linkAll_9, e_X5_linkAll_10, e_X5_linkAll_11, e_X5_linkAll_13, e_X5_linkAll_16, e_X5_linkAll_17, e_X5_linkAll_20, e_X5_linkAll_21, e_X5_linkAll_22, e_X5_linkAll_24, e_X5_linkAll_25, e_X5_linkAll_29, e_X5_linkAll_30, e_X5_linkAll_33, e_X5_linkAll_36, e_X5_linkAll_37, e_X5_linkAll_39, e_X5_linkAll_42, e_X5_linkAll_43, e_X5_linkAll_44, e_X5_linkAll_45, e_X5_linkAll_48, e_X5_linkAll_49, e_X5_linkAll_52, e_X5_linkAll_54, e_X5_linkAll_55, e_X5_linkAll_57, e_X5_linkAll_60, e_X5_linkAll_61, e_X5_linkAll_63, e_X5_linkAll_64, e_X5_linkAll_65, e_X5_linkAll_68, e_X5_linkAll_71, e_X5_linkAll_73, e_X5_linkAll_76, e_X5_linkAll_80, e_X5_linkAll_83, e_X5_linkAll_84, e_X5_linkAll_86, e_X5_linkAll_87, e_X5_linkAll_90, e_X5_linkAll_93, d, if_true]
    · rw [hj j (by omega) hj2]
      have : f = pP q := by omega
      rw [this]
      rfl
  | succ g ih =>
    intro f I v1 v2 hf hT h2 h5 hq hal hj n1 n2
    subst h2
    subst h5
    have hPO : pP q = pO q + 1 := by have := hw.2.1; omega
    have hg : g < pP q := by omega
    have hin := x_link_i (e := e) (L := L) (k := g) hR hT h16 hO hp hq hw hd hrow (S := mnt T (I 2) (I 5) q dg al f) hg (fun j h1 h2 => hj j (by omega) h2) (A := al g) (pO q - g) g (by omega) (Nat.le_refl _)
    have e1 : bs (fun x => al g x && lks T (I 2) (I 5) q dg (mnt T (I 2) (I 5) q dg al f) g x g) T = bs (al g) T := bs_congr (by omega) (fun x _ => by rw [lks_k]; simp)
    rw [e1] at hin
    have hfk : g = pP q - 1 - f := by omega
    obtain ⟨I2, hE, hF, hM⟩ := ih (f + 1) (rt_up I 29 g (bs (fun x => al g x && lks T (I 2) (I 5) q dg (mnt T (I 2) (I 5) q dg al f) g x (pO q)) T)) (.int (bs (fun x => al g x && lks T (I 2) (I 5) q dg (mnt T (I 2) (I 5) q dg al f) g x (pO q)) T)) (.int (nI (pO q))) (by omega) (by rw [rt_up_n1 (by omega)]; exact hT) (rt_up_f (by omega)) (rt_up_f (by omega)) (PX_fr hq (fun c h1 h2 => rt_up_f (by omega))) (fun k hk => by rw [rt_up_n1 (by omega)]; exact hal k hk) (fun j h1 h2 => by
        show rt_up I 29 g _ 29 j = bs (fun x => if j = pP q - 1 - f then al j x && lks T (I 2) (I 5) q dg (mnt T (I 2) (I 5) q dg al f) j x (pO q) else mnt T (I 2) (I 5) q dg al f j x) T
        by_cases hjg : j = g
        · subst hjg
          rw [rt_up_eq]
          simp only [if_pos hfk]
        · rw [rt_up_n2 hjg]
          simp only [if_neg (show ¬ j = pP q - 1 - f by omega)]
          exact hj j (by omega) h2) rfl rfl
    refine ⟨I2, ?_, fun c hc => by rw [hF c hc, rt_up_f hc], hM⟩
    rw [e_X5_linkAll_12, pk_m1]
    simp (disch := first | exact rt_bo_0 | exact rt_bo_1 | exact ns_float | exact ns_int | exact ns_ref | assumption | omega | (simp (disch := omega) only [ob_27, rg_27_0 hR, rg_27_1 hR, rg_27_2 hR, rg_27_3 hR, ar_28, ln_28, rg_27_4 hR, ar_29, ln_29, rg_27_5 hR, ar_30, ln_30, ob_1, rg_1_0 hR, ar_2, ln_2, rg_1_1 hR, ar_3, ln_3, rg_1_2 hR, ar_4, ln_4, rg_1_3 hR, ar_5, ln_5, rg_1_4 hR, ar_6, ln_6, ob_15, rg_15_0 hR, ar_16, ln_16, o1, rt_in_nI, Option.isSome_some, Option.getD_some, Bool.or_true, Bool.true_or]; done) | fail) only [e_X5_linkAll_0, e_X5_linkAll_1, e_X5_linkAll_4, e_X5_linkAll_6, e_X5_linkAll_9, e_X5_linkAll_10, e_X5_linkAll_11, e_X5_linkAll_13, e_X5_linkAll_16, e_X5_linkAll_17, e_X5_linkAll_20, e_X5_linkAll_21, e_X5_linkAll_22, e_X5_linkAll_24, e_X5_linkAll_25, e_X5_linkAll_29, e_X5_linkAll_30, e_X5_linkAll_33, e_X5_linkAll_36, e_X5_linkAll_37, e_X5_linkAll_39, e_X5_linkAll_42, e_X5_linkAll_43, e_X5_linkAll_44, e_X5_linkAll_45, e_X5_linkAll_48, e_X5_linkAll_49, e_X5_linkAll_52, e_X5_linkAll_54, e_X5_linkAll_55, e_X5_linkAll_57, e_X5_linkAll_60, e_X5_linkAll_61, e_X5_linkAll_63, e_X5_linkAll_64, e_X5_linkAll_65, e_X5_linkAll_68, e_X5_linkAll_71, e_X5_linkAll_73, e_X5_linkAll_76, e_X5_linkAll_80, e_X5_linkAll_83, e_X5_linkAll_84, e_X5_linkAll_86, e_X5_linkAll_87, e_X5_linkAll_90, e_X5_linkAll_93, q_l0, rg_27_3 hR, nI_cl, hal g hg, if_false, Option.getD_some, Option.bind_some, Option.toList_some, Option.toList_none, List.cons_append, List.nil_append]
    rw [hin]
    simp (disch := first | exact rt_bo_0 | exact rt_bo_1 | exact ns_float | exact ns_int | exact ns_ref | assumption | omega | (simp (disch := omega) only [ob_27, rg_27_0 hR, rg_27_1 hR, rg_27_2 hR, rg_27_3 hR, ar_28, ln_28, rg_27_4 hR, ar_29, ln_29, rg_27_5 hR, ar_30, ln_30, ob_1, rg_1_0 hR, ar_2, ln_2, rg_1_1 hR, ar_3, ln_3, rg_1_2 hR, ar_4, ln_4, rg_1_3 hR, ar_5, ln_5, rg_1_4 hR, ar_6, ln_6, ob_15, rg_15_0 hR, ar_16, ln_16, o1, rt_in_nI, Option.isSome_some, Option.getD_some, Bool.or_true, Bool.true_or]; done) | fail) only [e_X5_linkAll_0, e_X5_linkAll_1, e_X5_linkAll_4, e_X5_linkAll_6, e_X5_linkAll_9, e_X5_linkAll_10, e_X5_linkAll_11, e_X5_linkAll_13, e_X5_linkAll_16, e_X5_linkAll_17, e_X5_linkAll_20, e_X5_linkAll_21, e_X5_linkAll_22, e_X5_linkAll_24, e_X5_linkAll_25, e_X5_linkAll_29, e_X5_linkAll_30, e_X5_linkAll_33, e_X5_linkAll_36, e_X5_linkAll_37, e_X5_linkAll_39, e_X5_linkAll_42, e_X5_linkAll_43, e_X5_linkAll_44, e_X5_linkAll_45, e_X5_linkAll_48, e_X5_linkAll_49, e_X5_linkAll_52, e_X5_linkAll_54, e_X5_linkAll_55, e_X5_linkAll_57, e_X5_linkAll_60, e_X5_linkAll_61, e_X5_linkAll_63, e_X5_linkAll_64, e_X5_linkAll_65, e_X5_linkAll_68, e_X5_linkAll_71, e_X5_linkAll_73, e_X5_linkAll_76, e_X5_linkAll_79, e_X5_linkAll_80, e_X5_linkAll_83, e_X5_linkAll_84, e_X5_linkAll_86, e_X5_linkAll_87, e_X5_linkAll_90, e_X5_linkAll_93, rg_27_4 hR, nI_cl, Option.getD_some, Option.bind_some, Option.toList_some, Option.toList_none, List.cons_append, List.nil_append]
    exact hE
theorem x_link (hR : RG R a b) (hT : I 1 5 = nI T) (h16 : T ≤ 16) (hO : RoomOK T (I 2) (I 5)) (hp : PH (71 + e) R p) (hpp : p = 18 ∨ 71 ≤ p) (hq : PX I p q) {nw : Nat} (hw : wfq nw q) {dg : Nat → Nat} (hd : wfd q dg) {row : Int32} (hrow : DX row (pO q) dg) {al : Nat → Nat → Bool} (hal : ∀ k, k < pP q → I 28 k = bs (al k) T) :
    ∃ I2, Ev mX5_linkAll 0 [.ref 27, .ref p, .int row, .float 0, .float 0, .float 0] [] (71 + e, I, L, R) = some (none, (71 + e, I2, L, R)) ∧ (∀ c, c ≠ 29 → I2 c = I c) ∧ ∀ j, j < pP q → I2 29 j = bs (mng T (I 2) (I 5) q dg al j) T := by
  obtain ⟨I2, hE, hF, hM⟩ := x_link_l (e := e) (L := L) hR h16 hp hpp hw hd hrow hO (al := al) (pP q) 0 I (.float 0) (.float 0) (by omega) hT rfl rfl hq hal (fun j h1 h2 => by omega) rfl rfl
  refine ⟨I2, ?_, hF, hM⟩
  have o1 := hp.1
  have h7 := hw.1
  have e7 : (7 : Int32) = nI 7 := rfl
  have c : ¬ 7 < pP q := by omega
  have s1 : nI (pP q) - 1 = nI (pP q) + (-1) := by
    cases pP q with
    | zero => decide
    | succ m => rw [nI_pred, pk_m1]
  simp (disch := first | exact rt_bo_0 | exact rt_bo_1 | exact ns_float | exact ns_int | exact ns_ref | assumption | omega | (simp (disch := omega) only [ob_27, rg_27_0 hR, rg_27_1 hR, rg_27_2 hR, rg_27_3 hR, ar_28, ln_28, rg_27_4 hR, ar_29, ln_29, rg_27_5 hR, ar_30, ln_30, ob_1, rg_1_0 hR, ar_2, ln_2, rg_1_1 hR, ar_3, ln_3, rg_1_2 hR, ar_4, ln_4, rg_1_3 hR, ar_5, ln_5, rg_1_4 hR, ar_6, ln_6, ob_15, rg_15_0 hR, ar_16, ln_16, o1, rt_in_nI, Option.isSome_some, Option.getD_some, Bool.or_true, Bool.true_or]; done) | fail) only [e_X5_linkAll_0, e_X5_linkAll_1, e_X5_linkAll_4, e_X5_linkAll_6, e_X5_linkAll_9, e_X5_linkAll_10, e_X5_linkAll_11, e_X5_linkAll_13, e_X5_linkAll_16, e_X5_linkAll_17, e_X5_linkAll_20, e_X5_linkAll_21, e_X5_linkAll_22, e_X5_linkAll_24, e_X5_linkAll_25, e_X5_linkAll_29, e_X5_linkAll_30, e_X5_linkAll_33, e_X5_linkAll_36, e_X5_linkAll_37, e_X5_linkAll_39, e_X5_linkAll_42, e_X5_linkAll_43, e_X5_linkAll_44, e_X5_linkAll_45, e_X5_linkAll_48, e_X5_linkAll_49, e_X5_linkAll_52, e_X5_linkAll_54, e_X5_linkAll_55, e_X5_linkAll_57, e_X5_linkAll_60, e_X5_linkAll_61, e_X5_linkAll_63, e_X5_linkAll_64, e_X5_linkAll_65, e_X5_linkAll_68, e_X5_linkAll_71, e_X5_linkAll_73, e_X5_linkAll_76, e_X5_linkAll_80, e_X5_linkAll_83, e_X5_linkAll_84, e_X5_linkAll_86, e_X5_linkAll_87, e_X5_linkAll_90, e_X5_linkAll_93, e_X1_nps_0, e_X1_nps_1, e_X1_nps_4, e_J9_min_7cf53_0, e_J9_min_7cf53_1, e_J9_min_7cf53_2, e_J9_min_7cf53_5, e_J9_min_7cf53_6, e_J9_min_7cf53_9, e_J9_min_7cf53_10, hq.1, e7, q_lt, c, s1, if_false, Option.getD_some, Option.bind_some, Option.toList_some, Option.toList_none, List.cons_append, List.nil_append]
  exact hE
theorem x_look_l (hR : RG R a b) (h16 : T ≤ 16) (hp : PH (71 + e) R p) (hpp : p = 18 ∨ 71 ≤ p) {nw : Nat} (h8 : nw ≤ 8) (hw : wfq nw q) {ts : Nat → Nat → Bool} {it th one : Option Nat} (h1 : won nw one) (hit : ∀ x, it = some x → x < T) (hth : ∀ x, th = some x → x < T) {J : Nat → Nat → Int32}
    (hm : ∀ I2 : Nat → Nat → Int32, (∀ c, c ≠ 28 → I2 c = J c) → Ev mX0_mentionedBack 0 [.ref 15, .int 0] [] (71 + e, I2, L, R) = some (some (.int (oN it)), (71 + e, I2, L, R)))
    (hl : ∀ I2 : Nat → Nat → Int32, (∀ c, c ≠ 28 → I2 c = J c) → Ev mX3_lastMoved 0 [.ref 1] [] (71 + e, I2, L, R) = some (some (.int (oN th)), (71 + e, I2, L, R)))
    (hT : J 1 5 = nI T) (hq : PX J p q) (hts : ∀ k, k < nw → J 30 k = bs (ts k) T) :
    ∀ (g k : Nat) (I : Nat → Nat → Int32), k + g = pP q → (∀ c, c ≠ 28 → I c = J c) → (∀ j, j < k → I 28 j = bs (aln (J 2) (J 3) (J 4) ts it th one q j) T) →
    ∃ I2, Ev mX5_lookAlone 2 [.ref 27, .ref p, .int (oX one), .int (nI k)] [] (71 + e, I, L, R) = some (none, (71 + e, I2, L, R)) ∧ (∀ c, c ≠ 28 → I2 c = J c) ∧ ∀ j, j < pP q → I2 28 j = bs (aln (J 2) (J 3) (J 4) ts it th one q j) T := by
  intro g
  have o1 := hp.1
  have hP7 := hw.1
  have e7 : (7 : Int32) = nI 7 := rfl
  induction g with
  | zero =>
    intro k I hk hF hj
    refine ⟨I, ?_, hF, fun j hj2 => hj j (by omega)⟩
    have c : pP q ≤ k := by omega
    have hq' : I p 4 = nI (pP q) := by rw [hF p (by omega)]; exact hq.1
    rw [e_X5_lookAlone_2]
    simp (disch := first | exact rt_bo_0 | exact rt_bo_1 | exact ns_float | exact ns_int | exact ns_ref | assumption | omega | (simp (disch := omega) only [ob_27, rg_27_0 hR, rg_27_1 hR, rg_27_2 hR, rg_27_3 hR, ar_28, ln_28, rg_27_4 hR, ar_29, ln_29, rg_27_5 hR, ar_30, ln_30, ob_1, rg_1_0 hR, ar_2, ln_2, rg_1_1 hR, ar_3, ln_3, rg_1_2 hR, ar_4, ln_4, rg_1_3 hR, ar_5, ln_5, rg_1_4 hR, ar_6, ln_6, ob_15, rg_15_0 hR, ar_16, ln_16, o1, rt_in_nI, Option.isSome_some, Option.getD_some, Bool.or_true, Bool.true_or]; done) | fail) only [e_X5_lookAlone_0, e_X5_lookAlone_1, e_X5_lookAlone_3, e_X5_lookAlone_4, e_X5_lookAlone_7, e_X5_lookAlone_10, e_X5_lookAlone_11, e_X5_lookAlone_13, e_X5_lookAlone_16, e_X5_lookAlone_17, e_X5_lookAlone_20, e_X5_lookAlone_21, e_X5_lookAlone_22, e_X5_lookAlone_23, e_X5_lookAlone_24, e_X5_lookAlone_25, e_X5_lookAlone_28, e_X5_lookAlone_29, e_X5_lookAlone_32, e_X5_lookAlone_35, e_X1_nps_0, e_X1_nps_1, e_X1_nps_4, hq', q_le, c, if_true, Option.getD_some, Option.bind_some, Option.toList_some, Option.toList_none, List.cons_append, List.nil_append]
  | succ g ih =>
    intro k I hk hF hj
    have c : ¬ pP q ≤ k := by omega
    have c7 : ¬ 7 ≤ k := by omega
    have hq2 : PX I p q := PX_fr hq (fun c h1 h2 => hF c (by omega))
    have hMA := x_meantAlone (e := e) (I := I) (L := L) (k := k) hR (by rw [hF 1 (by omega)]; exact hT) h16 hp hq2 h8 hw (by omega) (ts := ts) (fun k hk => by rw [hF 30 (by omega)]; exact hts k hk) h1 hit hth (hm I hF) (hl I hF)
    rw [hF 2 (by omega), hF 3 (by omega), hF 4 (by omega)] at hMA
    obtain ⟨I2, hE, hF2, hM⟩ := ih (k + 1) (rt_up I 28 k (bs (aln (J 2) (J 3) (J 4) ts it th one q k) T)) (by omega) (fun c hc => by rw [rt_up_f hc]; exact hF c hc) (fun j hj2 => by
      by_cases hjk : j = k
      · subst hjk; rw [rt_up_eq]
      · rw [rt_up_n2 hjk]; exact hj j (by omega))
    refine ⟨I2, ?_, hF2, hM⟩
    rw [e_X5_lookAlone_2]
    simp (disch := first | exact rt_bo_0 | exact rt_bo_1 | exact ns_float | exact ns_int | exact ns_ref | assumption | omega | (simp (disch := omega) only [ob_27, rg_27_0 hR, rg_27_1 hR, rg_27_2 hR, rg_27_3 hR, ar_28, ln_28, rg_27_4 hR, ar_29, ln_29, rg_27_5 hR, ar_30, ln_30, ob_1, rg_1_0 hR, ar_2, ln_2, rg_1_1 hR, ar_3, ln_3, rg_1_2 hR, ar_4, ln_4, rg_1_3 hR, ar_5, ln_5, rg_1_4 hR, ar_6, ln_6, ob_15, rg_15_0 hR, ar_16, ln_16, o1, rt_in_nI, Option.isSome_some, Option.getD_some, Bool.or_true, Bool.true_or]; done) | fail) only [e_X5_lookAlone_0, e_X5_lookAlone_1, e_X5_lookAlone_3, e_X5_lookAlone_4, e_X5_lookAlone_7, e_X5_lookAlone_10, e_X5_lookAlone_11, e_X5_lookAlone_13, e_X5_lookAlone_16, e_X5_lookAlone_17, e_X5_lookAlone_20, e_X5_lookAlone_21, e_X5_lookAlone_22, e_X5_lookAlone_23, e_X5_lookAlone_24, e_X5_lookAlone_25, e_X5_lookAlone_28, e_X5_lookAlone_29, e_X5_lookAlone_32, e_X5_lookAlone_35, e_X1_nps_0, e_X1_nps_1, e_X1_nps_4, hq2.1, e7, q_le, q_s, c, c7, rg_27_3 hR, hMA, nI_cl, if_false, Option.getD_some, Option.bind_some, Option.toList_some, Option.toList_none, List.cons_append, List.nil_append]
    exact hE
end P21

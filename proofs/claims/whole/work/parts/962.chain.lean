abbrev AcT : Type := Int32 × Int32 × Int32
/-- clearing: each of these is taken and put down -/
def acl (base : Int32) : List Nat → List AcT
  | [] => []
  | c :: l => (0, nI c, base) :: (2, -1, base) :: acl base l
/-- from c down to base stand these, the uppermost first -/
def dwl (T : Nat) (m : Nat → Int32) (base : Nat) : Nat → List Nat → Prop
  | c, [] => c = base
  | c, d :: l => c = d ∧ d < T ∧ ∃ p, p < T ∧ m d = nI p ∧ dwl T m base p l
/-- acts one behind the other, each of which may be done; what comes of it -/
def LegT (T : Nat) (so : Nat → Int32) : (Nat → Int32) → List AcT → (Nat → Int32) → Prop
  | m, [], m2 => m2 = m
  | m, a :: l, m2 => ∃ j to_, alw T so m a.1 a.2.1 j to_ ∧ LegT T so (updf m j to_) l m2
def PLx (I : Nat → Nat → Int32) (l : List AcT) : Prop := I 31 1 = nI l.length ∧ ∀ i a, l[i]? = some a → I 32 (3 * i) = a.1 ∧ I 32 (3 * i + 1) = a.2.1 ∧ I 32 (3 * i + 2) = a.2.2
def PLm (I : Nat → Nat → Int32) (l : List AcT) : Prop := I 33 60 = nI l.length ∧ ∀ i a, l[i]? = some a → I 66 i = a.1 ∧ I 67 i = a.2.1 ∧ I 68 i = a.2.2
section P36
variable {e : Nat} {I I2 : Nat → Nat → Int32} {L : Nat → Nat → Int64} {R : Nat → Nat → Option Nat} {a b T j n k p i base c : Nat} {x y w last : Int32} {so m m1 m2 at_ : Nat → Int32} {acc : List Nat} {l l1 l2 : List AcT}
theorem LegT_app : ∀ {l1 : List AcT} {m m1 : Nat → Int32}, LegT T so m l1 m1 → LegT T so m1 l2 m2 → LegT T so m (l1 ++ l2) m2 := by
  intro l1
  induction l1 with
  | nil => intro m m1 h1 h2; cases h1; exact h2
  | cons a l1 ih =>
    intro m m1 h1 h2
    obtain ⟨j, to_, g1, g2⟩ := h1
    exact ⟨j, to_, g1, ih g2 h2⟩
theorem LegT_ok (h16 : T ≤ 16) : ∀ {l : List AcT} {m : Nat → Int32}, RoomOK T so m → LegT T so m l m2 → RoomOK T so m2 := by
  intro l
  induction l with
  | nil => intro m h1 h2; cases h2; exact h1
  | cons a l ih =>
    intro m h1 h2
    obtain ⟨j, to_, g1, g2⟩ := h2
    exact ih (room_mv g1 h16 h1) g2
theorem acl_len : (acl x acc).length = 2 * acc.length := by
  induction acc with
  | nil => rfl
  | cons c l ih => show (acl x l).length + 1 + 1 = 2 * (l.length + 1); omega
theorem dwl_lt (hb : base < T) : ∀ {acc : List Nat} {c : Nat}, dwl T m base c acc → c < T ∧ ∀ d, d ∈ acc → d < T := by
  intro acc
  induction acc with
  | nil => intro c h; cases h; exact ⟨hb, fun d hd => by cases hd⟩
  | cons d l ih =>
    intro c h
    obtain ⟨rfl, h1, p, hp, h2, h3⟩ := h
    refine ⟨h1, fun z hz => ?_⟩
    rcases List.mem_cons.mp hz with rfl | hz
    · exact h1
    · exact (ih h3).2 z hz
theorem dwl_ord {ord : Nat → Nat} (hup : ∀ i j, i < T → j < T → m i = nI j → ord j < ord i) : ∀ {acc : List Nat} {c : Nat}, dwl T m base c acc → ord base + acc.length ≤ ord c ∧ ∀ d, d ∈ acc → ord d ≤ ord c ∧ ord base < ord d := by
  intro acc
  induction acc with
  | nil => intro c h; cases h; exact ⟨Nat.le_refl _, fun d hd => by cases hd⟩
  | cons d l ih =>
    intro c h
    obtain ⟨rfl, h1, p, hp, h2, h3⟩ := h
    have g := hup c p h1 hp h2
    obtain ⟨i1, i2⟩ := ih h3
    refine ⟨by rw [List.length_cons]; omega, fun z hz => ?_⟩
    rcases List.mem_cons.mp hz with rfl | hz
    · exact ⟨Nat.le_refl _, by omega⟩
    · have := i2 z hz; omega
theorem dwl_congr : ∀ {acc : List Nat} {c : Nat}, dwl T m base c acc → (∀ d, d ∈ acc → m2 d = m d) → dwl T m2 base c acc := by
  intro acc
  induction acc with
  | nil => intro c h _; exact h
  | cons d l ih =>
    intro c h hc
    obtain ⟨rfl, h1, p, hp, h2, h3⟩ := h
    exact ⟨rfl, h1, p, hp, by rw [hc c (List.mem_cons_self ..)]; exact h2, ih h3 (fun z hz => hc z (List.mem_cons_of_mem _ hz))⟩
theorem dwl_snoc : ∀ {acc : List Nat} {c : Nat}, dwl T m base c acc → acc ≠ [] → ∃ acc' d, acc = acc' ++ [d] ∧ d < T ∧ m d = nI base ∧ dwl T m d c acc' := by
  intro acc
  induction acc with
  | nil => intro c _ h; exact absurd rfl h
  | cons d l ih =>
    intro c h _
    obtain ⟨rfl, h1, p, hp, h2, h3⟩ := h
    cases l with
    | nil =>
      cases h3
      exact ⟨[], c, rfl, h1, h2, rfl⟩
    | cons z l =>
      obtain ⟨acc', y, e1, e2, e3, e4⟩ := ih h3 (by simp)
      exact ⟨c :: acc', y, by rw [e1]; rfl, e2, e3, rfl, h1, p, hp, h2, e4⟩
theorem otp_on {d cur : Nat} (hO : RoomOK T so m) (h16 : T ≤ 16) (hd : d < T) (hc : cur < T) (hs : so cur ≠ 2) (h : m d = nI cur) : otp T so m cur = nI d ∧ so cur = 0 := by
  have h0 : so cur = 0 := by
    rcases hO.1 d hd with g | g | ⟨z, hz, g, gs⟩
    · rw [g] at h; exact absurd h.symm (n16 (by omega))
    · rw [g] at h; exact absurd h.symm (n17 (by omega))
    · rw [g, q_eq (by omega) (by omega)] at h
      subst h
      rcases gs with gs | gs
      · exact gs
      · exact absurd gs hs
  refine ⟨?_, h0⟩
  unfold otp
  rw [if_pos h0]
  rcases ff_cases (fun i => m i = nI cur) T 0 with ⟨-, g⟩ | ⟨z, -, g2, g3, g4, -⟩
  · exact absurd h (g d (by omega) (by omega))
  · rw [g4, hO.2.2.1 z d cur (by omega) hd hc h0 g3 h]
theorem x_add (hR : RG R a b) (h : PLx I l) (hl : l.length < 40) : ∃ I2, Ev mX6_add 0 [.ref 31, .int x, .int y, .int w] [] (71 + e, I, L, R) = some (none, (71 + e, I2, L, R)) ∧ PLx I2 (l ++ [(x, y, w)]) ∧ ∀ c, c ≠ 31 → c ≠ 32 → I2 c = I c := by
  obtain ⟨h1, h2⟩ := h
  have e40 : (40 : Int32) = nI 40 := rfl
  have e3 : (3 : Int32) = nI 3 := rfl
  have p1 : ∀ n, nI n + 1 = nI (n + 1) := fun n => nI_add n 1
  have p2 : ∀ n, nI n + 2 = nI (n + 2) := fun n => nI_add n 2
  have m3 : ∀ n, nI 3 * nI n = nI (3 * n) := fun n => pk_mul 3 n
  have c : ¬ 40 ≤ l.length := by omega
  refine ⟨rt_up (rt_up (rt_up (rt_up I 32 (3 * l.length) x) 32 (3 * l.length + 1) y) 32 (3 * l.length + 2) w) 31 1 (nI (l.length + 1)), ?_, ⟨?_, fun i q hq => ?_⟩, fun c h1 h2 => by rw [rt_up_f h1, rt_up_f h2, rt_up_f h2, rt_up_f h2]⟩
  · simp (disch := first | exact rt_bo_0 | exact rt_bo_1 | exact ns_float | exact ns_int | exact ns_ref | assumption | omega | (simp (disch := omega) only [ob_31, rg_31_0 hR, ar_32, ln_32, rt_in_nI, Option.isSome_some, Option.getD_some, Bool.or_true, Bool.true_or]; done) | fail) only [e_X6_add_0, e_X6_add_1, e_X6_add_4, e_X6_add_6, e_X6_add_9, e_X6_add_10, e_X6_add_13, e_X6_add_14, e_X6_add_15, e_X6_add_18, e_X6_add_19, e_X6_add_20, e_X6_add_21, e_X6_add_22, e_X6_add_25, e_X6_add_26, e_X6_add_27, e_X6_add_30, e_X6_add_31, e_X6_add_32, e_X6_add_33, e_X6_add_34, e_X6_add_35, e_X6_add_36, e_X6_add_39, e_X6_add_40, e_X6_add_41, e_X6_add_44, e_X6_add_45, e_X6_add_46, e_X6_add_47, e_X6_add_48, e_X6_add_49, e_X6_add_50, e_X6_add_51, e_X6_add_54, e_X6_add_55, e_X6_add_56, e_X6_add_59, h1, e40, e3, q_le, c, rg_31_0 hR, m3, p1, p2, nI_cl, rt_up_n1, if_false, Option.getD_some, Option.bind_some, Option.toList_some, Option.toList_none, List.cons_append, List.nil_append]
  · rw [rt_up_eq, List.length_append, List.length_singleton]
  · rw [rt_up_f (show 32 ≠ 31 by omega)]
    by_cases hi : i = l.length
    · subst hi
      rw [List.getElem?_append_right (Nat.le_refl _), Nat.sub_self] at hq
      cases hq
      refine ⟨?_, ?_, ?_⟩
      · rw [rt_up_n2 (by omega), rt_up_n2 (by omega), rt_up_eq]
      · rw [rt_up_n2 (by omega), rt_up_eq]
      · rw [rt_up_eq]
    · by_cases hi2 : i < l.length
      · rw [List.getElem?_append_left hi2] at hq
        obtain ⟨g1, g2, g3⟩ := h2 i q hq
        refine ⟨?_, ?_, ?_⟩
        · rw [rt_up_n2 (by omega), rt_up_n2 (by omega), rt_up_n2 (by omega)]; exact g1
        · rw [rt_up_n2 (by omega), rt_up_n2 (by omega), rt_up_n2 (by omega)]; exact g2
        · rw [rt_up_n2 (by omega), rt_up_n2 (by omega), rt_up_n2 (by omega)]; exact g3
      · rw [List.getElem?_eq_none (by rw [List.length_append, List.length_singleton]; omega)] at hq
        cases hq
/-- the class walks up -/
theorem x_clr_u (hR : RG R a b) (hT : I 1 5 = nI T) (h16 : T ≤ 16) (hO : RoomOK T (I 2) (I 5)) (hns : ∀ i, i < T → I 5 i ≠ 16 → I 2 i ≠ 2) (ord : Nat → Nat) (ho : ∀ i, i < T → ord i < T) (hup : ∀ i j, i < T → j < T → I 5 i = nI j → ord j < ord i) (hb : base < T) :
    ∀ (f i : Nat) (top : Nat) (acc : List Nat), i + f = 16 → T ≤ ord top + f → dwl T (I 5) base top acc → (∀ d, d ∈ acc → nI d = last → d = top) →
    ∃ top2 acc2 v, Ev mX6_clearOver 6 [.ref 31, .ref 1, .int (nI base), .int last, .int (nI top), .int (nI i)] [] (71 + e, I, L, R) = Ev mX6_clearOver 43 [.ref 31, .ref 1, .int (nI base), .int last, .int (nI top2), .int v] [] (71 + e, I, L, R) ∧ dwl T (I 5) base top2 acc2 ∧ (nI top2 = last ∨ otp T (I 2) (I 5) top2 = -1) ∧ (∀ d, d ∈ acc2 → nI d = last → d = top2) := by
  have e16 : (16 : Int32) = nI 16 := rfl
  intro f
  induction f with
  | zero =>
    intro i top acc hi hf hd hla
    have := ho top (dwl_lt hb hd).1
    omega
  | succ f ih =>
    intro i top acc hi hf hd hla
    have hti := (dwl_lt hb hd).1
    have c : ¬ 16 ≤ i := by omega
    rw [e_X6_clearOver_6]
    by_cases hl : nI top = last
    · refine ⟨top, acc, nI i, ?_, hd, Or.inl hl, hla⟩
      simp (disch := first | exact rt_bo_0 | exact rt_bo_1 | exact ns_float | exact ns_int | exact ns_ref | assumption | omega | (simp (disch := omega) only [ob_31, rg_31_0 hR, ar_32, ln_32, ob_1, rg_1_0 hR, ar_2, ln_2, rg_1_1 hR, ar_3, ln_3, rg_1_2 hR, ar_4, ln_4, rg_1_3 hR, ar_5, ln_5, rg_1_4 hR, ar_6, ln_6, rt_in_nI, Option.isSome_some, Option.getD_some, Bool.or_true, Bool.true_or]; done) | fail) only [e_X6_clearOver_0, e_X6_clearOver_1, e_X6_clearOver_3, e_X6_clearOver_4, e_X6_clearOver_8, e_X6_clearOver_10, e_X6_clearOver_13, e_X6_clearOver_15, e_X6_clearOver_16, e_X6_clearOver_19, e_X6_clearOver_20, e_X6_clearOver_22, e_X6_clearOver_25, e_X6_clearOver_26, e_X6_clearOver_29, e_X6_clearOver_30, e_X6_clearOver_32, e_X6_clearOver_35, e_X6_clearOver_37, e_X6_clearOver_40, e_X6_clearOver_44, e_X6_clearOver_46, e_X6_clearOver_48, e_X6_clearOver_50, e_X6_clearOver_53, e_X6_clearOver_55, e_X6_clearOver_56, e_X6_clearOver_59, e_X6_clearOver_60, e_X6_clearOver_61, e_X6_clearOver_63, e_X6_clearOver_64, e_X6_clearOver_67, e_X6_clearOver_68, e_X6_clearOver_69, e_X6_clearOver_70, e_X6_clearOver_71, e_X6_clearOver_74, e_X6_clearOver_75, e_X6_clearOver_77, e_X6_clearOver_80, e_X6_clearOver_82, e_X6_clearOver_85, e_X6_clearOver_88, e16, q_le, c, hl, if_true, if_false, Option.getD_some, Option.bind_some, Option.toList_some, Option.toList_none, List.cons_append, List.nil_append]
    · have hon := x_onTop_in (e := e) (L := L) hR hT h16 hti
      have hot : (if I 2 top = 0 then ff (fun i => I 5 i = nI top) 0 T else -1) = otp T (I 2) (I 5) top := rfl
      rw [hot] at hon
      by_cases hn : otp T (I 2) (I 5) top = -1
      · refine ⟨top, acc, nI i, ?_, hd, Or.inr hn, hla⟩
        rw [hn] at hon
        simp (disch := first | exact rt_bo_0 | exact rt_bo_1 | exact ns_float | exact ns_int | exact ns_ref | assumption | omega | (simp (disch := omega) only [ob_31, rg_31_0 hR, ar_32, ln_32, ob_1, rg_1_0 hR, ar_2, ln_2, rg_1_1 hR, ar_3, ln_3, rg_1_2 hR, ar_4, ln_4, rg_1_3 hR, ar_5, ln_5, rg_1_4 hR, ar_6, ln_6, rt_in_nI, Option.isSome_some, Option.getD_some, Bool.or_true, Bool.true_or]; done) | fail) only [e_X6_clearOver_0, e_X6_clearOver_1, e_X6_clearOver_3, e_X6_clearOver_4, e_X6_clearOver_8, e_X6_clearOver_10, e_X6_clearOver_13, e_X6_clearOver_15, e_X6_clearOver_16, e_X6_clearOver_19, e_X6_clearOver_20, e_X6_clearOver_22, e_X6_clearOver_25, e_X6_clearOver_26, e_X6_clearOver_29, e_X6_clearOver_30, e_X6_clearOver_32, e_X6_clearOver_35, e_X6_clearOver_37, e_X6_clearOver_40, e_X6_clearOver_44, e_X6_clearOver_46, e_X6_clearOver_48, e_X6_clearOver_50, e_X6_clearOver_53, e_X6_clearOver_55, e_X6_clearOver_56, e_X6_clearOver_59, e_X6_clearOver_60, e_X6_clearOver_61, e_X6_clearOver_63, e_X6_clearOver_64, e_X6_clearOver_67, e_X6_clearOver_68, e_X6_clearOver_69, e_X6_clearOver_70, e_X6_clearOver_71, e_X6_clearOver_74, e_X6_clearOver_75, e_X6_clearOver_77, e_X6_clearOver_80, e_X6_clearOver_82, e_X6_clearOver_85, e_X6_clearOver_88, e16, q_le, c, hl, hon, if_true, if_false, Option.getD_some, Option.bind_some, Option.toList_some, Option.toList_none, List.cons_append, List.nil_append]
      · rcases nth_otp (T := T) (so := I 2) (at_ := I 5) (j := top) with h | ⟨d, hd1, hd2⟩
        · exact absurd h hn
        · have hat := otp_up hd2 hd1 h16
          have hor := hup d top hd1 hti hat
          obtain ⟨t2, a2, v, hE, g1, g2, g3⟩ := ih (i + 1) d (d :: acc) (by omega) (by omega) ⟨rfl, hd1, top, hti, hat, hd⟩ (fun z hz hzl => by
            rcases List.mem_cons.mp hz with rfl | hz
            · rfl
            · have := hla z hz hzl
              rw [this] at hzl
              exact absurd hzl hl)
          refine ⟨t2, a2, v, ?_, g1, g2, g3⟩
          rw [hd2] at hon
          simp (disch := first | exact rt_bo_0 | exact rt_bo_1 | exact ns_float | exact ns_int | exact ns_ref | assumption | omega | (simp (disch := omega) only [ob_31, rg_31_0 hR, ar_32, ln_32, ob_1, rg_1_0 hR, ar_2, ln_2, rg_1_1 hR, ar_3, ln_3, rg_1_2 hR, ar_4, ln_4, rg_1_3 hR, ar_5, ln_5, rg_1_4 hR, ar_6, ln_6, rt_in_nI, Option.isSome_some, Option.getD_some, Bool.or_true, Bool.true_or]; done) | fail) only [e_X6_clearOver_0, e_X6_clearOver_1, e_X6_clearOver_3, e_X6_clearOver_4, e_X6_clearOver_8, e_X6_clearOver_10, e_X6_clearOver_13, e_X6_clearOver_15, e_X6_clearOver_16, e_X6_clearOver_19, e_X6_clearOver_20, e_X6_clearOver_22, e_X6_clearOver_25, e_X6_clearOver_26, e_X6_clearOver_29, e_X6_clearOver_30, e_X6_clearOver_32, e_X6_clearOver_35, e_X6_clearOver_37, e_X6_clearOver_40, e_X6_clearOver_44, e_X6_clearOver_46, e_X6_clearOver_48, e_X6_clearOver_50, e_X6_clearOver_53, e_X6_clearOver_55, e_X6_clearOver_56, e_X6_clearOver_59, e_X6_clearOver_60, e_X6_clearOver_61, e_X6_clearOver_63, e_X6_clearOver_64, e_X6_clearOver_67, e_X6_clearOver_68, e_X6_clearOver_69, e_X6_clearOver_70, e_X6_clearOver_71, e_X6_clearOver_74, e_X6_clearOver_75, e_X6_clearOver_77, e_X6_clearOver_80, e_X6_clearOver_82, e_X6_clearOver_85, e_X6_clearOver_88, e16, q_le, q_e1, q_s, c, hl, hon, if_true, if_false, Option.getD_some, Option.bind_some, Option.toList_some, Option.toList_none, List.cons_append, List.nil_append]
          exact hE
/-- and down again, telling acts -/
theorem x_clr_d (hR : RG R a b) (h16 : T ≤ 16) {J : Nat → Nat → Int32} (hT : J 1 5 = nI T) (ord : Nat → Nat) (hup : ∀ i j, i < T → j < T → J 5 i = nI j → ord j < ord i) (hb : base < T) {v : Int32} :
    ∀ (acc : List Nat) (top i : Nat) (l : List AcT) (I : Nat → Nat → Int32), i + acc.length < 16 → l.length + 2 * acc.length ≤ 40 → dwl T (J 5) base top acc → PLx I l → (∀ c, c ≠ 31 → c ≠ 32 → I c = J c) →
    ∃ I2, Ev mX6_clearOver 46 [.ref 31, .ref 1, .int (nI base), .int v, .int (nI top), .int (nI i)] [] (71 + e, I, L, R) = some (none, (71 + e, I2, L, R)) ∧ PLx I2 (l ++ acl (nI base) acc) ∧ ∀ c, c ≠ 31 → c ≠ 32 → I2 c = J c := by
  have e16 : (16 : Int32) = nI 16 := rfl
  intro acc
  induction acc with
  | nil =>
    intro top i l I hi hl hd hP hF
    cases hd
    refine ⟨I, ?_, by rw [acl, List.append_nil]; exact hP, hF⟩
    rw [List.length_nil] at hi
    have c : ¬ 16 ≤ i := by omega
    rw [e_X6_clearOver_46]
    simp (disch := first | exact rt_bo_0 | exact rt_bo_1 | exact ns_float | exact ns_int | exact ns_ref | assumption | omega | (simp (disch := omega) only [ob_31, rg_31_0 hR, ar_32, ln_32, ob_1, rg_1_0 hR, ar_2, ln_2, rg_1_1 hR, ar_3, ln_3, rg_1_2 hR, ar_4, ln_4, rg_1_3 hR, ar_5, ln_5, rg_1_4 hR, ar_6, ln_6, rt_in_nI, Option.isSome_some, Option.getD_some, Bool.or_true, Bool.true_or]; done) | fail) only [e_X6_clearOver_0, e_X6_clearOver_1, e_X6_clearOver_3, e_X6_clearOver_4, e_X6_clearOver_8, e_X6_clearOver_10, e_X6_clearOver_13, e_X6_clearOver_15, e_X6_clearOver_16, e_X6_clearOver_19, e_X6_clearOver_20, e_X6_clearOver_22, e_X6_clearOver_25, e_X6_clearOver_26, e_X6_clearOver_29, e_X6_clearOver_30, e_X6_clearOver_32, e_X6_clearOver_35, e_X6_clearOver_37, e_X6_clearOver_40, e_X6_clearOver_43, e_X6_clearOver_44, e_X6_clearOver_48, e_X6_clearOver_50, e_X6_clearOver_53, e_X6_clearOver_55, e_X6_clearOver_56, e_X6_clearOver_59, e_X6_clearOver_60, e_X6_clearOver_61, e_X6_clearOver_63, e_X6_clearOver_64, e_X6_clearOver_67, e_X6_clearOver_68, e_X6_clearOver_69, e_X6_clearOver_70, e_X6_clearOver_71, e_X6_clearOver_74, e_X6_clearOver_75, e_X6_clearOver_77, e_X6_clearOver_80, e_X6_clearOver_82, e_X6_clearOver_85, e_X6_clearOver_88, e16, q_le, c, if_true, if_false, Option.getD_some, Option.bind_some, Option.toList_some, Option.toList_none, List.cons_append, List.nil_append]
  | cons d acc ih =>
    intro top i l I hi hl hd hP hF
    have hor := (dwl_ord hup hd).2 d (List.mem_cons_self ..)
    obtain ⟨rfl, h1, p, hp, h2, h3⟩ := hd
    rw [List.length_cons] at hi hl
    have c : ¬ 16 ≤ i := by omega
    have hne : ¬ nI top = nI base := by
      rw [q_eq (by omega) (by omega)]
      intro e
      rw [e] at hor
      omega
    obtain ⟨IA, hA1, hA2, hA3⟩ := x_add (e := e) (L := L) (x := 0) (y := nI top) (w := nI base) hR hP (by omega)
    obtain ⟨IB, hB1, hB2, hB3⟩ := x_add (e := e) (L := L) (x := 2) (y := -1) (w := nI base) hR hA2 (by rw [List.length_append, List.length_singleton]; omega)
    have hFB : ∀ c, c ≠ 31 → c ≠ 32 → IB c = J c := fun c h1 h2 => by rw [hB3 c h1 h2, hA3 c h1 h2, hF c h1 h2]
    have hpl := x_place_in (e := e) (I := IB) (L := L) hR (by rw [hFB 1 (by omega) (by omega)]; exact hT) h16 h1
    rw [hFB 5 (by omega) (by omega), h2] at hpl
    obtain ⟨I2, hE, g1, g2⟩ := ih p (i + 1) (l ++ [(0, nI top, nI base)] ++ [(2, -1, nI base)]) IB (by omega) (by rw [List.length_append, List.length_append, List.length_singleton, List.length_singleton]; omega) h3 hB2 hFB
    refine ⟨I2, ?_, by rw [List.append_assoc, List.append_assoc] at g1; exact g1, g2⟩
    rw [e_X6_clearOver_46]
    simp (disch := first | exact rt_bo_0 | exact rt_bo_1 | exact ns_float | exact ns_int | exact ns_ref | assumption | omega | (simp (disch := omega) only [ob_31, rg_31_0 hR, ar_32, ln_32, ob_1, rg_1_0 hR, ar_2, ln_2, rg_1_1 hR, ar_3, ln_3, rg_1_2 hR, ar_4, ln_4, rg_1_3 hR, ar_5, ln_5, rg_1_4 hR, ar_6, ln_6, rt_in_nI, Option.isSome_some, Option.getD_some, Bool.or_true, Bool.true_or]; done) | fail) only [e_X6_clearOver_0, e_X6_clearOver_1, e_X6_clearOver_3, e_X6_clearOver_4, e_X6_clearOver_8, e_X6_clearOver_10, e_X6_clearOver_13, e_X6_clearOver_15, e_X6_clearOver_16, e_X6_clearOver_19, e_X6_clearOver_20, e_X6_clearOver_22, e_X6_clearOver_25, e_X6_clearOver_26, e_X6_clearOver_29, e_X6_clearOver_30, e_X6_clearOver_32, e_X6_clearOver_35, e_X6_clearOver_37, e_X6_clearOver_40, e_X6_clearOver_43, e_X6_clearOver_44, e_X6_clearOver_48, e_X6_clearOver_50, e_X6_clearOver_53, e_X6_clearOver_55, e_X6_clearOver_56, e_X6_clearOver_59, e_X6_clearOver_60, e_X6_clearOver_61, e_X6_clearOver_63, e_X6_clearOver_64, e_X6_clearOver_67, e_X6_clearOver_68, e_X6_clearOver_69, e_X6_clearOver_70, e_X6_clearOver_71, e_X6_clearOver_74, e_X6_clearOver_75, e_X6_clearOver_77, e_X6_clearOver_80, e_X6_clearOver_82, e_X6_clearOver_85, e_X6_clearOver_88, e16, q_le, q_s, c, hne, hA1, hB1, hpl, if_true, if_false, Option.getD_some, Option.bind_some, Option.toList_some, Option.toList_none, List.cons_append, List.nil_append]
    exact hE
theorem x_clear (hR : RG R a b) (hT : I 1 5 = nI T) (h16 : T ≤ 16) (hO : RoomOK T (I 2) (I 5)) (hb : base < T) (hP : PLx I l) :
    ∃ top acc, dwl T (I 5) base top acc ∧ (nI top = last ∨ otp T (I 2) (I 5) top = -1) ∧ (∀ d, d ∈ acc → nI d = last → d = top) ∧ acc.length < 16 ∧ (l.length + 2 * acc.length ≤ 40 →
      ∃ I2, Ev mX6_clearOver 0 [.ref 31, .ref 1, .int (nI base), .int last, .float 0, .float 0] [] (71 + e, I, L, R) = some (none, (71 + e, I2, L, R)) ∧ PLx I2 (l ++ acl (nI base) acc) ∧ ∀ c, c ≠ 31 → c ≠ 32 → I2 c = I c) := by
  obtain ⟨ord, ho, -, hup⟩ := hO.2.2.2.2.2
  obtain ⟨t2, a2, v, hE, g1, g2, g3⟩ := x_clr_u (e := e) (L := L) (last := last) hR hT h16 hO (fun i hi h hs => h (hO.2.2.2.2.1 i hi hs)) ord ho hup hb 16 0 base [] (by omega) (by omega) rfl (fun d hd => by cases hd)
  have hlen : a2.length < 16 := by
    have h1 := (dwl_ord hup g1).1
    have h2 := ho t2 (dwl_lt hb g1).1
    omega
  refine ⟨t2, a2, g1, g2, g3, hlen, fun hl => ?_⟩
  obtain ⟨I2, hE2, k1, k2⟩ := x_clr_d (e := e) (L := L) (v := last) hR h16 (J := I) hT ord hup hb a2 t2 0 l I (by omega) hl g1 hP (fun _ _ _ => rfl)
  refine ⟨I2, ?_, k1, k2⟩
  rw [nI_0] at hE hE2
  simp (disch := first | exact rt_bo_0 | exact rt_bo_1 | exact ns_float | exact ns_int | exact ns_ref | assumption | omega | (simp (disch := omega) only [ob_31, rg_31_0 hR, ar_32, ln_32, ob_1, rg_1_0 hR, ar_2, ln_2, rg_1_1 hR, ar_3, ln_3, rg_1_2 hR, ar_4, ln_4, rg_1_3 hR, ar_5, ln_5, rg_1_4 hR, ar_6, ln_6, rt_in_nI, Option.isSome_some, Option.getD_some, Bool.or_true, Bool.true_or]; done) | fail) only [e_X6_clearOver_0, e_X6_clearOver_1, e_X6_clearOver_3, e_X6_clearOver_4, e_X6_clearOver_8, e_X6_clearOver_10, e_X6_clearOver_13, e_X6_clearOver_15, e_X6_clearOver_16, e_X6_clearOver_19, e_X6_clearOver_20, e_X6_clearOver_22, e_X6_clearOver_25, e_X6_clearOver_26, e_X6_clearOver_29, e_X6_clearOver_30, e_X6_clearOver_32, e_X6_clearOver_35, e_X6_clearOver_37, e_X6_clearOver_40, e_X6_clearOver_44, e_X6_clearOver_48, e_X6_clearOver_50, e_X6_clearOver_53, e_X6_clearOver_55, e_X6_clearOver_56, e_X6_clearOver_59, e_X6_clearOver_60, e_X6_clearOver_61, e_X6_clearOver_63, e_X6_clearOver_64, e_X6_clearOver_67, e_X6_clearOver_68, e_X6_clearOver_69, e_X6_clearOver_70, e_X6_clearOver_71, e_X6_clearOver_74, e_X6_clearOver_75, e_X6_clearOver_77, e_X6_clearOver_80, e_X6_clearOver_82, e_X6_clearOver_85, e_X6_clearOver_88]
  rw [hE, e_X6_clearOver_43]
  simp (disch := first | exact rt_bo_0 | exact rt_bo_1 | exact ns_float | exact ns_int | exact ns_ref | assumption | omega | (simp (disch := omega) only [ob_31, rg_31_0 hR, ar_32, ln_32, ob_1, rg_1_0 hR, ar_2, ln_2, rg_1_1 hR, ar_3, ln_3, rg_1_2 hR, ar_4, ln_4, rg_1_3 hR, ar_5, ln_5, rg_1_4 hR, ar_6, ln_6, rt_in_nI, Option.isSome_some, Option.getD_some, Bool.or_true, Bool.true_or]; done) | fail) only [e_X6_clearOver_0, e_X6_clearOver_1, e_X6_clearOver_3, e_X6_clearOver_4, e_X6_clearOver_8, e_X6_clearOver_10, e_X6_clearOver_13, e_X6_clearOver_15, e_X6_clearOver_16, e_X6_clearOver_19, e_X6_clearOver_20, e_X6_clearOver_22, e_X6_clearOver_25, e_X6_clearOver_26, e_X6_clearOver_29, e_X6_clearOver_30, e_X6_clearOver_32, e_X6_clearOver_35, e_X6_clearOver_37, e_X6_clearOver_40, e_X6_clearOver_44, e_X6_clearOver_48, e_X6_clearOver_50, e_X6_clearOver_53, e_X6_clearOver_55, e_X6_clearOver_56, e_X6_clearOver_59, e_X6_clearOver_60, e_X6_clearOver_61, e_X6_clearOver_63, e_X6_clearOver_64, e_X6_clearOver_67, e_X6_clearOver_68, e_X6_clearOver_69, e_X6_clearOver_70, e_X6_clearOver_71, e_X6_clearOver_74, e_X6_clearOver_75, e_X6_clearOver_77, e_X6_clearOver_80, e_X6_clearOver_82, e_X6_clearOver_85, e_X6_clearOver_88]
  exact hE2
end P36

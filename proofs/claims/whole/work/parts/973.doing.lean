/-- acts one behind the other, with what they leave in room and log -/
def sgR (T : Nat) (so : Nat → Int32) (u : Int32) : SgT → List AcT → SgT → Prop
  | g, [], g2 => g2 = g
  | g, q :: l, g2 => ∃ j to_, alw T so g.2.1 q.1 q.2.1 j to_ ∧ sgR T so u (sgS g j q.1 to_ q.2.2 u) l g2
section P47
variable {e : Nat} {I I1 I2 : Nat → Nat → Int32} {L : Nat → Nat → Int64} {R : Nat → Nat → Option Nat} {a b T E j n S nw NR fm r : Nat} {x y k w u to_ : Int32} {so m m2 at_ : Nat → Int32} {g g2 : SgT} {pl l : List AcT} {q : PhT} {ln : Option Nat} {dg : Nat → Nat → Nat} {dn : Bool}
theorem alw_congr (hc : ∀ i, i < T → m i = at_ i) (h : alw T so m k x j to_) : alw T so at_ k x j to_ := by
  obtain ⟨hj, h⟩ := h
  refine ⟨hj, ?_⟩
  rcases h with ⟨h1, h2, h3, h4, h5, h6⟩ | ⟨h1, h2⟩
  · exact Or.inl ⟨h1, h2, h3, fun i hi => by rw [← hc i hi]; exact h4 i hi, h5, fun i hi => by rw [← hc i hi]; exact h6 i hi⟩
  · refine Or.inr ⟨by rw [← hc j hj]; exact h1, ?_⟩
    rcases h2 with ⟨h2, y, y1, y2, y3, y4, y5, y6⟩ | h2 | h2
    · exact Or.inl ⟨h2, y, y1, y2, y3, y4, y5, fun i hi => by rw [← hc i hi]; exact y6 i hi⟩
    · exact Or.inr (Or.inl h2)
    · exact Or.inr (Or.inr h2)
theorem sgR_of : ∀ {l : List AcT} {m : Nat → Int32} {g : SgT}, LegT T so m l m2 → (∀ i, i < T → m i = g.2.1 i) → ∃ g2, sgR T so u g l g2 := by
  intro l
  induction l with
  | nil => intro m g _ _; exact ⟨g, rfl⟩
  | cons q l ih =>
    intro m g h hc
    obtain ⟨j, to_, h1, h2⟩ := h
    obtain ⟨g2, h3⟩ := ih (g := sgS g j q.1 to_ q.2.2 u) h2 (fun i hi => by
      show updf m j to_ i = updf g.2.1 j to_ i
      by_cases e : i = j
      · subst e; rw [updf_s, updf_s]
      · rw [updf_n e, updf_n e]; exact hc i hi)
    exact ⟨g2, j, to_, alw_congr hc h1, h3⟩
theorem sgR_hist (h16 : T ≤ 16) : ∀ {l : List AcT} {g : SgT}, sgR T so u g l g2 → Hist T so g.2.2.2.1 g.2.2.2.2.2.2.2 g.1 g.2.1 → g2.1 = g.1 + l.length ∧ Hist T so g2.2.2.2.1 g2.2.2.2.2.2.2.2 g2.1 g2.2.1 := by
  intro l
  induction l with
  | nil => intro g h hH; cases h; exact ⟨by simp, hH⟩
  | cons q l ih =>
    intro g h hH
    obtain ⟨j, to_, h1, h2⟩ := h
    obtain ⟨i1, i2⟩ := ih h2 (Hist_mv h16 hH h1)
    refine ⟨?_, i2⟩
    rw [i1, List.length_cons]
    show g.1 + 1 + l.length = _
    omega
/-- the class does its acts -/
theorem x_perfs (hR : RG R a b) (h16 : T ≤ 16) (hpl : pl.length ≤ 40) : ∀ (l : List AcT) (i : Nat) (I : Nat → Nat → Int32) (g : SgT), i + l.length = pl.length → (∀ k, l[k]? = pl[i + k]?) → RXr I T so g → RoomOK T so g.2.1 → g.1 + l.length ≤ 200 → PLx I pl → sgR T so (nI S) g l g2 →
    ∃ I2, Ev mX9_carryOut 10 [.ref 0, .int (nI S), .int (nI i)] [] (71 + e, I, L, R) = Ev mX9_carryOut 70 [.ref 0, .int (nI S), .int (nI pl.length)] [] (71 + e, I2, L, R) ∧ RXr I2 T so g2 ∧ ∀ c, c ≠ 1 → c ≠ 5 → c ≠ 6 → I2 c = I c := by
  intro l
  have m3 : ∀ n, (3 : Int32) * nI n = nI (3 * n) := fun n => pk_mul 3 n
  have p1 : ∀ n, nI n + 1 = nI (n + 1) := fun n => nI_add n 1
  have p2 : ∀ n, nI n + 2 = nI (n + 2) := fun n => nI_add n 2
  induction l with
  | nil =>
    intro i I g hi hl hx hO hE hP hs
    cases hs
    have hi' : i = pl.length := by simpa using hi
    subst hi'
    refine ⟨I, ?_, hx, fun _ _ _ _ => rfl⟩
    rw [e_X9_carryOut_10]
    simp (disch := first | exact rt_bo_0 | exact rt_bo_1 | exact ns_float | exact ns_int | exact ns_ref | assumption | omega | (simp (disch := omega) only [ob_0, rg_0_0 hR, rg_0_1 hR, rg_0_2 hR, rg_0_3 hR, rg_0_4 hR, rg_0_5 hR, rg_0_6 hR, ob_31, rg_31_0 hR, ar_32, ln_32, rt_in_nI, Option.isSome_some, Option.getD_some, Bool.or_true, Bool.true_or]; done) | fail) only [e_X9_carryOut_0, e_X9_carryOut_1, e_X9_carryOut_4, e_X9_carryOut_7, e_X9_carryOut_8, e_X9_carryOut_9, e_X9_carryOut_11, e_X9_carryOut_12, e_X9_carryOut_15, e_X9_carryOut_18, e_X9_carryOut_21, e_X9_carryOut_22, e_X9_carryOut_25, e_X9_carryOut_26, e_X9_carryOut_29, e_X9_carryOut_30, e_X9_carryOut_31, e_X9_carryOut_32, e_X9_carryOut_35, e_X9_carryOut_36, e_X9_carryOut_39, e_X9_carryOut_40, e_X9_carryOut_41, e_X9_carryOut_42, e_X9_carryOut_43, e_X9_carryOut_44, e_X9_carryOut_47, e_X9_carryOut_48, e_X9_carryOut_51, e_X9_carryOut_52, e_X9_carryOut_53, e_X9_carryOut_54, e_X9_carryOut_55, e_X9_carryOut_56, e_X9_carryOut_59, e_X9_carryOut_60, e_X9_carryOut_63, e_X9_carryOut_64, e_X9_carryOut_67, e_X9_carryOut_71, e_X9_carryOut_74, e_X9_carryOut_77, e_X9_carryOut_79, e_X9_carryOut_82, e_X9_carryOut_83, e_X9_carryOut_86, e_X9_carryOut_87, e_X9_carryOut_90, e_X9_carryOut_91, e_X9_carryOut_94, e_X9_carryOut_97, e_X9_carryOut_100, e_X9_carryOut_101, e_X9_carryOut_104, e_X9_carryOut_107, e_X9_carryOut_109, e_X9_carryOut_112, e_X9_carryOut_113, e_X9_carryOut_116, e_X9_carryOut_117, e_X9_carryOut_120, e_X9_carryOut_121, e_X9_carryOut_124, e_X9_carryOut_125, e_X9_carryOut_128, e_X9_carryOut_131, e_X9_carryOut_134, e_X9_carryOut_135, e_X9_carryOut_136, e_X9_carryOut_137, e_X9_carryOut_138, e_X9_carryOut_141, e_X9_carryOut_144, e_X9_carryOut_147, e_X9_carryOut_150, e_X9_carryOut_151, e_X9_carryOut_154, e_X9_carryOut_155, e_X9_carryOut_158, e_X9_carryOut_159, e_X9_carryOut_162, e_X9_carryOut_165, e_X9_carryOut_168, e_X9_carryOut_171, e_X9_carryOut_172, e_X9_carryOut_175, e_X9_carryOut_176, e_X9_carryOut_179, e_X9_carryOut_182, e_X9_carryOut_185, e_X9_carryOut_188, e_X9_carryOut_189, e_X9_carryOut_192, e_X9_carryOut_195, e_X9_carryOut_196, e_X6_length_0, e_X6_length_1, e_X6_length_4, rg_0_6 hR, hP.1, q_le, Nat.le_refl, if_true, Option.getD_some, Option.bind_some, Option.toList_some, Option.toList_none, List.cons_append, List.nil_append]
  | cons q l ih =>
    intro i I g hi hl hx hO hE hP hs
    obtain ⟨j, to_, ha, hs2⟩ := hs
    rw [List.length_cons] at hi hE
    have c : ¬ pl.length ≤ i := by omega
    obtain ⟨IA, hA1, hA2, hA3⟩ := x_perf (e := e) (L := L) (w := q.2.2) (u := nI S) hR hx h16 hO (by omega) ha
    have hq : pl[i]? = some q := by have := hl 0; rw [Nat.add_zero] at this; rw [← this]; rfl
    obtain ⟨g1, g3, g4⟩ := hP.2 i q hq
    obtain ⟨I2, hE2, k1, k2⟩ := ih (i + 1) IA (sgS g j q.1 to_ q.2.2 (nI S)) (by omega) (fun k => by have := hl (k + 1); rw [show i + 1 + k = i + (k + 1) by omega, ← this]; rfl) hA2 (room_mv ha h16 hO) (by show g.1 + 1 + l.length ≤ 200; omega) (PLx_fr hP (hA3 31 (by omega) (by omega) (by omega)) (hA3 32 (by omega) (by omega) (by omega))) hs2
    refine ⟨I2, ?_, k1, fun c a1 a2 a3 => by rw [k2 c a1 a2 a3, hA3 c a1 a2 a3]⟩
    have t1 := x_part (e := e) (L := L) hR hP hpl (w := 3 * i) (by omega)
    have t2 := x_part (e := e) (L := L) hR hP hpl (w := 3 * i + 1) (by omega)
    have t3 := x_part (e := e) (L := L) hR hP hpl (w := 3 * i + 2) (by omega)
    rw [g1] at t1
    rw [g3] at t2
    rw [g4] at t3
    rw [e_X9_carryOut_10]
    simp (disch := first | exact rt_bo_0 | exact rt_bo_1 | exact ns_float | exact ns_int | exact ns_ref | assumption | omega | (simp (disch := omega) only [ob_0, rg_0_0 hR, rg_0_1 hR, rg_0_2 hR, rg_0_3 hR, rg_0_4 hR, rg_0_5 hR, rg_0_6 hR, ob_1, rg_1_0 hR, ar_2, ln_2, rg_1_1 hR, ar_3, ln_3, rg_1_2 hR, ar_4, ln_4, rg_1_3 hR, ar_5, ln_5, rg_1_4 hR, ar_6, ln_6, ob_31, rg_31_0 hR, ar_32, ln_32, rt_in_nI, Option.isSome_some, Option.getD_some, Bool.or_true, Bool.true_or]; done) | fail) only [e_X9_carryOut_0, e_X9_carryOut_1, e_X9_carryOut_4, e_X9_carryOut_7, e_X9_carryOut_8, e_X9_carryOut_9, e_X9_carryOut_11, e_X9_carryOut_12, e_X9_carryOut_15, e_X9_carryOut_18, e_X9_carryOut_21, e_X9_carryOut_22, e_X9_carryOut_25, e_X9_carryOut_26, e_X9_carryOut_29, e_X9_carryOut_30, e_X9_carryOut_31, e_X9_carryOut_32, e_X9_carryOut_35, e_X9_carryOut_36, e_X9_carryOut_39, e_X9_carryOut_40, e_X9_carryOut_41, e_X9_carryOut_42, e_X9_carryOut_43, e_X9_carryOut_44, e_X9_carryOut_47, e_X9_carryOut_48, e_X9_carryOut_51, e_X9_carryOut_52, e_X9_carryOut_53, e_X9_carryOut_54, e_X9_carryOut_55, e_X9_carryOut_56, e_X9_carryOut_59, e_X9_carryOut_60, e_X9_carryOut_63, e_X9_carryOut_64, e_X9_carryOut_67, e_X9_carryOut_71, e_X9_carryOut_74, e_X9_carryOut_77, e_X9_carryOut_79, e_X9_carryOut_82, e_X9_carryOut_83, e_X9_carryOut_86, e_X9_carryOut_87, e_X9_carryOut_90, e_X9_carryOut_91, e_X9_carryOut_94, e_X9_carryOut_97, e_X9_carryOut_100, e_X9_carryOut_101, e_X9_carryOut_104, e_X9_carryOut_107, e_X9_carryOut_109, e_X9_carryOut_112, e_X9_carryOut_113, e_X9_carryOut_116, e_X9_carryOut_117, e_X9_carryOut_120, e_X9_carryOut_121, e_X9_carryOut_124, e_X9_carryOut_125, e_X9_carryOut_128, e_X9_carryOut_131, e_X9_carryOut_134, e_X9_carryOut_135, e_X9_carryOut_136, e_X9_carryOut_137, e_X9_carryOut_138, e_X9_carryOut_141, e_X9_carryOut_144, e_X9_carryOut_147, e_X9_carryOut_150, e_X9_carryOut_151, e_X9_carryOut_154, e_X9_carryOut_155, e_X9_carryOut_158, e_X9_carryOut_159, e_X9_carryOut_162, e_X9_carryOut_165, e_X9_carryOut_168, e_X9_carryOut_171, e_X9_carryOut_172, e_X9_carryOut_175, e_X9_carryOut_176, e_X9_carryOut_179, e_X9_carryOut_182, e_X9_carryOut_185, e_X9_carryOut_188, e_X9_carryOut_189, e_X9_carryOut_192, e_X9_carryOut_195, e_X9_carryOut_196, e_X6_length_0, e_X6_length_1, e_X6_length_4, rg_0_0 hR, rg_0_6 hR, hP.1, q_le, c, m3, p1, p2, t1, t2, t3, hA1, if_false, Option.getD_some, Option.bind_some, Option.toList_some, Option.toList_none, List.cons_append, List.nil_append]
    exact hE2
/-- and the reference -/
theorem m_haps (hR : RG R a b) (h16 : T ≤ 16) (hpl : pl.length ≤ 40) (hfm : fm ≤ 2) : ∀ (l : List AcT) (i : Nat) (I : Nat → Nat → Int32) (g : SgT), i + l.length = pl.length → (∀ k, l[k]? = pl[i + k]?) → RMr I T so g → RoomOK T so g.2.1 → g.1 + l.length ≤ 200 → PLm I pl → I 33 33 = nI fm → I 33 61 = nI S → sgR T so (nI S) g l g2 →
    ∃ I2, Ev mX10_done 198 [.ref 33, .int w, .int (nI i)] [] (71 + e, I, L, R) = Ev mX10_done 248 [.ref 33, .int w, .int (nI pl.length)] [] (71 + e, I2, L, R) ∧ RMr I2 T so g2 ∧ (∀ c, c ≠ 33 → c < 37 ∨ 43 < c → I2 c = I c) ∧ ∀ q, q ≠ 1 → I2 33 q = I 33 q := by
  intro l
  induction l with
  | nil =>
    intro i I g hi hl hx hO hE hP hf hS hs
    cases hs
    have hi' : i = pl.length := by simpa using hi
    subst hi'
    refine ⟨I, ?_, hx, fun _ _ _ => rfl, fun _ _ => rfl⟩
    rw [e_X10_done_198]
    simp (disch := first | exact rt_bo_0 | exact rt_bo_1 | exact ns_float | exact ns_int | exact ns_ref | assumption | omega | (simp (disch := omega) only [ob_33, rg_33_2 hR, ar_34, ln_34, rg_33_3 hR, ar_35, ln_35, rg_33_4 hR, ar_36, ln_36, rg_33_5 hR, ar_37, ln_37, rg_33_6 hR, ar_38, ln_38, rg_33_7 hR, ar_39, ln_39, rg_33_8 hR, ar_40, ln_40, rg_33_9 hR, ar_41, ln_41, rg_33_10 hR, ar_42, ln_42, rg_33_11 hR, ar_43, ln_43, rg_33_12 hR, ar_44, ln_44, rg_33_19 hR, ar_45, ln_45, rg_33_20 hR, ar_46, ln_46, rg_33_23 hR, ar_47, ln_47, rg_33_24 hR, ar_48, ln_48, rg_33_25 hR, ar_49, ln_49, rg_33_26 hR, ar_50, ln_50, rg_33_27 hR, ar_51, ln_51, rg_33_28 hR, ar_52, ln_52, rg_33_29 hR, ar_53, ln_53, rg_33_30 hR, ar_54, ln_54, rg_33_39 hR, ar_55, ln_55, rg_33_40 hR, ar_56, ln_56, rg_33_41 hR, ar_57, ln_57, rg_33_42 hR, ar_58, ln_58, rg_33_43 hR, ar_59, ln_59, rg_33_44 hR, ar_60, ln_60, rg_33_45 hR, ar_61, ln_61, rg_33_48 hR, ar_62, ln_62, rg_33_49 hR, ar_63, ln_63, rg_33_50 hR, ar_64, ln_64, rg_33_56 hR, ar_65, ln_65, rg_33_57 hR, ar_66, ln_66, rg_33_58 hR, ar_67, ln_67, rg_33_59 hR, ar_68, ln_68, rg_33_66 hR, ar_69, ln_69, rg_33_67 hR, ar_70, ln_70, rt_in_nI, Option.isSome_some, Option.getD_some, Bool.or_true, Bool.true_or]; done) | fail) only [e_X10_done_0, e_X10_done_1, e_X10_done_4, e_X10_done_7, e_X10_done_8, e_X10_done_9, e_X10_done_10, e_X10_done_13, e_X10_done_14, e_X10_done_15, e_X10_done_18, e_X10_done_20, e_X10_done_21, e_X10_done_22, e_X10_done_25, e_X10_done_28, e_X10_done_31, e_X10_done_32, e_X10_done_35, e_X10_done_36, e_X10_done_39, e_X10_done_41, e_X10_done_44, e_X10_done_45, e_X10_done_48, e_X10_done_51, e_X10_done_53, e_X10_done_54, e_X10_done_55, e_X10_done_56, e_X10_done_57, e_X10_done_58, e_X10_done_61, e_X10_done_62, e_X10_done_63, e_X10_done_66, e_X10_done_67, e_X10_done_70, e_X10_done_71, e_X10_done_72, e_X10_done_75, e_X10_done_76, e_X10_done_79, e_X10_done_82, e_X10_done_83, e_X10_done_86, e_X10_done_87, e_X10_done_90, e_X10_done_91, e_X10_done_94, e_X10_done_95, e_X10_done_96, e_X10_done_99, e_X10_done_100, e_X10_done_101, e_X10_done_102, e_X10_done_105, e_X10_done_106, e_X10_done_107, e_X10_done_110, e_X10_done_113, e_X10_done_116, e_X10_done_117, e_X10_done_120, e_X10_done_122, e_X10_done_125, e_X10_done_126, e_X10_done_127, e_X10_done_130, e_X10_done_131, e_X10_done_134, e_X10_done_136, e_X10_done_139, e_X10_done_140, e_X10_done_143, e_X10_done_145, e_X10_done_148, e_X10_done_149, e_X10_done_152, e_X10_done_153, e_X10_done_156, e_X10_done_157, e_X10_done_160, e_X10_done_161, e_X10_done_162, e_X10_done_163, e_X10_done_164, e_X10_done_167, e_X10_done_168, e_X10_done_171, e_X10_done_172, e_X10_done_175, e_X10_done_177, e_X10_done_180, e_X10_done_181, e_X10_done_184, e_X10_done_185, e_X10_done_185z, e_X10_done_186, e_X10_done_187, e_X10_done_188, e_X10_done_191, e_X10_done_192, e_X10_done_193, e_X10_done_196, e_X10_done_197, e_X10_done_199, e_X10_done_200, e_X10_done_203, e_X10_done_206, e_X10_done_207, e_X10_done_210, e_X10_done_213, e_X10_done_216, e_X10_done_217, e_X10_done_218, e_X10_done_221, e_X10_done_222, e_X10_done_223, e_X10_done_224, e_X10_done_227, e_X10_done_228, e_X10_done_229, e_X10_done_230, e_X10_done_233, e_X10_done_234, e_X10_done_235, e_X10_done_236, e_X10_done_239, e_X10_done_242, e_X10_done_245, e_X10_done_249, e_X10_done_252, e_X10_done_253, e_X10_done_254, e_X10_done_257, e_X10_done_258, e_X10_done_259, e_X10_done_262, e_X10_done_263, e_X10_done_264, e_X10_done_267, e_X10_done_268, e_X10_done_271, e_X10_done_272, e_X10_done_273, hP.1, q_le, Nat.le_refl, if_true, Option.getD_some, Option.bind_some, Option.toList_some, Option.toList_none, List.cons_append, List.nil_append]
  | cons q l ih =>
    intro i I g hi hl hx hO hE hP hf hS hs
    obtain ⟨j, to_, ha, hs2⟩ := hs
    rw [List.length_cons] at hi hE
    have c : ¬ pl.length ≤ i := by omega
    obtain ⟨IA, hA1, hA2, hA3, hA4⟩ := m_happ (e := e) (L := L) (w := q.2.2) (u := nI S) hR hx h16 hO (by omega) ha
    have hq : pl[i]? = some q := by have := hl 0; rw [Nat.add_zero] at this; rw [← this]; rfl
    obtain ⟨g1, g3, g4⟩ := hP.2 i q hq
    obtain ⟨I2, hE2, k1, k2, k3⟩ := ih (i + 1) IA (sgS g j q.1 to_ q.2.2 (nI S)) (by omega) (fun k => by have := hl (k + 1); rw [show i + 1 + k = i + (k + 1) by omega, ← this]; rfl) hA2 (room_mv ha h16 hO) (by show g.1 + 1 + l.length ≤ 200; omega) (PLm_fr hP (hA4 60 (by omega)) (fun c h1 h2 => hA3 c (by omega) (by omega))) (by rw [hA4 33 (by omega)]; exact hf) (by rw [hA4 61 (by omega)]; exact hS) hs2
    refine ⟨I2, ?_, k1, fun c a1 a2 => by rw [k2 c a1 a2, hA3 c a1 a2], fun q hq => by rw [k3 q hq, hA4 q hq]⟩
    have hb := fun h => m_bidden (fm := fm) (h := h) (by omega)
    simp only [if_pos hfm] at hb
    rw [e_X10_done_198]
    simp (disch := first | exact rt_bo_0 | exact rt_bo_1 | exact ns_float | exact ns_int | exact ns_ref | assumption | omega | (simp (disch := omega) only [ob_33, rg_33_2 hR, ar_34, ln_34, rg_33_3 hR, ar_35, ln_35, rg_33_4 hR, ar_36, ln_36, rg_33_5 hR, ar_37, ln_37, rg_33_6 hR, ar_38, ln_38, rg_33_7 hR, ar_39, ln_39, rg_33_8 hR, ar_40, ln_40, rg_33_9 hR, ar_41, ln_41, rg_33_10 hR, ar_42, ln_42, rg_33_11 hR, ar_43, ln_43, rg_33_12 hR, ar_44, ln_44, rg_33_19 hR, ar_45, ln_45, rg_33_20 hR, ar_46, ln_46, rg_33_23 hR, ar_47, ln_47, rg_33_24 hR, ar_48, ln_48, rg_33_25 hR, ar_49, ln_49, rg_33_26 hR, ar_50, ln_50, rg_33_27 hR, ar_51, ln_51, rg_33_28 hR, ar_52, ln_52, rg_33_29 hR, ar_53, ln_53, rg_33_30 hR, ar_54, ln_54, rg_33_39 hR, ar_55, ln_55, rg_33_40 hR, ar_56, ln_56, rg_33_41 hR, ar_57, ln_57, rg_33_42 hR, ar_58, ln_58, rg_33_43 hR, ar_59, ln_59, rg_33_44 hR, ar_60, ln_60, rg_33_45 hR, ar_61, ln_61, rg_33_48 hR, ar_62, ln_62, rg_33_49 hR, ar_63, ln_63, rg_33_50 hR, ar_64, ln_64, rg_33_56 hR, ar_65, ln_65, rg_33_57 hR, ar_66, ln_66, rg_33_58 hR, ar_67, ln_67, rg_33_59 hR, ar_68, ln_68, rg_33_66 hR, ar_69, ln_69, rg_33_67 hR, ar_70, ln_70, rt_in_nI, Option.isSome_some, Option.getD_some, Bool.or_true, Bool.true_or]; done) | fail) only [e_X10_done_0, e_X10_done_1, e_X10_done_4, e_X10_done_7, e_X10_done_8, e_X10_done_9, e_X10_done_10, e_X10_done_13, e_X10_done_14, e_X10_done_15, e_X10_done_18, e_X10_done_20, e_X10_done_21, e_X10_done_22, e_X10_done_25, e_X10_done_28, e_X10_done_31, e_X10_done_32, e_X10_done_35, e_X10_done_36, e_X10_done_39, e_X10_done_41, e_X10_done_44, e_X10_done_45, e_X10_done_48, e_X10_done_51, e_X10_done_53, e_X10_done_54, e_X10_done_55, e_X10_done_56, e_X10_done_57, e_X10_done_58, e_X10_done_61, e_X10_done_62, e_X10_done_63, e_X10_done_66, e_X10_done_67, e_X10_done_70, e_X10_done_71, e_X10_done_72, e_X10_done_75, e_X10_done_76, e_X10_done_79, e_X10_done_82, e_X10_done_83, e_X10_done_86, e_X10_done_87, e_X10_done_90, e_X10_done_91, e_X10_done_94, e_X10_done_95, e_X10_done_96, e_X10_done_99, e_X10_done_100, e_X10_done_101, e_X10_done_102, e_X10_done_105, e_X10_done_106, e_X10_done_107, e_X10_done_110, e_X10_done_113, e_X10_done_116, e_X10_done_117, e_X10_done_120, e_X10_done_122, e_X10_done_125, e_X10_done_126, e_X10_done_127, e_X10_done_130, e_X10_done_131, e_X10_done_134, e_X10_done_136, e_X10_done_139, e_X10_done_140, e_X10_done_143, e_X10_done_145, e_X10_done_148, e_X10_done_149, e_X10_done_152, e_X10_done_153, e_X10_done_156, e_X10_done_157, e_X10_done_160, e_X10_done_161, e_X10_done_162, e_X10_done_163, e_X10_done_164, e_X10_done_167, e_X10_done_168, e_X10_done_171, e_X10_done_172, e_X10_done_175, e_X10_done_177, e_X10_done_180, e_X10_done_181, e_X10_done_184, e_X10_done_185, e_X10_done_185z, e_X10_done_186, e_X10_done_187, e_X10_done_188, e_X10_done_191, e_X10_done_192, e_X10_done_193, e_X10_done_196, e_X10_done_197, e_X10_done_199, e_X10_done_200, e_X10_done_203, e_X10_done_206, e_X10_done_207, e_X10_done_210, e_X10_done_213, e_X10_done_216, e_X10_done_217, e_X10_done_218, e_X10_done_221, e_X10_done_222, e_X10_done_223, e_X10_done_224, e_X10_done_227, e_X10_done_228, e_X10_done_229, e_X10_done_230, e_X10_done_233, e_X10_done_234, e_X10_done_235, e_X10_done_236, e_X10_done_239, e_X10_done_242, e_X10_done_245, e_X10_done_249, e_X10_done_252, e_X10_done_253, e_X10_done_254, e_X10_done_257, e_X10_done_258, e_X10_done_259, e_X10_done_262, e_X10_done_263, e_X10_done_264, e_X10_done_267, e_X10_done_268, e_X10_done_271, e_X10_done_272, e_X10_done_273, hP.1, hf, hS, q_le, q_s, c, hb, q_10, rg_33_57 hR, rg_33_58 hR, rg_33_59 hR, nI_cl, g1, g3, g4, hA1, if_false, Option.getD_some, Option.bind_some, Option.toList_some, Option.toList_none, List.cons_append, List.nil_append]
    exact hE2
/-- the only one of a set, as the class finds it -/
theorem x_ntz {h : rt_H} (hj : j < 16) : Ev mJ6_numberOfTrailingZeros_0f7a4 0 [.int (nI (2 ^ j)), .float 0] [] h = some (some (.int (nI j)), h) := by
  have hc : j = 0 ∨ j = 1 ∨ j = 2 ∨ j = 3 ∨ j = 4 ∨ j = 5 ∨ j = 6 ∨ j = 7 ∨ j = 8 ∨ j = 9 ∨ j = 10 ∨ j = 11 ∨ j = 12 ∨ j = 13 ∨ j = 14 ∨ j = 15 := by omega
  rcases hc with rfl | rfl | rfl | rfl | rfl | rfl | rfl | rfl | rfl | rfl | rfl | rfl | rfl | rfl | rfl | rfl <;> simp (disch := first | exact rt_bo_0 | exact rt_bo_1 | exact ns_float | exact ns_int | exact ns_ref | assumption | omega | (simp (disch := omega) only [rt_in_0, rt_in_nI, Option.isSome_some, Option.getD_some, Bool.or_true, Bool.true_or]; done) | fail) only [e_J6_numberOfTrailingZeros_0f7a4_0, e_J6_numberOfTrailingZeros_0f7a4_1, e_J6_numberOfTrailingZeros_0f7a4_2, e_J6_numberOfTrailingZeros_0f7a4_3, e_J6_numberOfTrailingZeros_0f7a4_4, e_J6_numberOfTrailingZeros_0f7a4_5, e_J6_numberOfTrailingZeros_0f7a4_6, e_J6_numberOfTrailingZeros_0f7a4_7, e_J6_numberOfTrailingZeros_0f7a4_8, e_J6_numberOfTrailingZeros_0f7a4_9, e_J6_numberOfTrailingZeros_0f7a4_12, e_J6_numberOfTrailingZeros_0f7a4_13, e_J6_numberOfTrailingZeros_0f7a4_15, e_J6_numberOfTrailingZeros_0f7a4_16, e_J6_numberOfTrailingZeros_0f7a4_17, e_J6_numberOfTrailingZeros_0f7a4_18, e_J6_numberOfTrailingZeros_0f7a4_19, e_J6_numberOfTrailingZeros_0f7a4_20, e_J6_numberOfTrailingZeros_0f7a4_23, e_J6_numberOfTrailingZeros_0f7a4_26, e_J6_numberOfTrailingZeros_0f7a4_29, e_J6_numberOfTrailingZeros_0f7a4_30, e_J6_numberOfTrailingZeros_0f7a4_32, e_J6_numberOfTrailingZeros_0f7a4_33, e_J6_numberOfTrailingZeros_0f7a4_34, e_J6_numberOfTrailingZeros_0f7a4_35, e_J6_numberOfTrailingZeros_0f7a4_38, e_J6_numberOfTrailingZeros_0f7a4_41, e_J6_numberOfTrailingZeros_0f7a4_44, e_J6_numberOfTrailingZeros_0f7a4_45, e_J6_numberOfTrailingZeros_0f7a4_47, e_J6_numberOfTrailingZeros_0f7a4_48, e_J6_numberOfTrailingZeros_0f7a4_49, e_J6_numberOfTrailingZeros_0f7a4_50, e_J6_numberOfTrailingZeros_0f7a4_52, e_J6_numberOfTrailingZeros_0f7a4_55, e_J6_numberOfTrailingZeros_0f7a4_58, e_J6_numberOfTrailingZeros_0f7a4_59, e_J6_numberOfTrailingZeros_0f7a4_60, e_J6_numberOfTrailingZeros_0f7a4_61, e_J6_numberOfTrailingZeros_0f7a4_62, e_J6_numberOfTrailingZeros_0f7a4_63, e_J6_numberOfTrailingZeros_0f7a4_64, e_J6_numberOfTrailingZeros_0f7a4_67, e_J6_numberOfTrailingZeros_0f7a4_70, e_J6_numberOfTrailingZeros_0f7a4_71, e_J6_numberOfTrailingZeros_0f7a4_72, e_J6_numberOfTrailingZeros_0f7a4_73, e_J6_numberOfTrailingZeros_0f7a4_74, e_J6_numberOfTrailingZeros_0f7a4_75, e_J6_numberOfTrailingZeros_0f7a4_76, e_J6_numberOfTrailingZeros_0f7a4_77, e_J6_numberOfTrailingZeros_0f7a4_78, e_J6_numberOfTrailingZeros_0f7a4_79] <;> (repeat (first | rw [if_pos (by decide)] | rw [if_neg (by decide)])) <;> (refine congrArg (fun z => some (some (Value.int z), h)) ?_) <;> decide
theorem bs_single {V : Nat → Bool} (h16 : T ≤ 16) (h1 : cn V T = 1) : ∃ j, j < T ∧ V j = true ∧ bs V T = nI (2 ^ j) ∧ ff (fun z => V z = true) 0 T = nI j := by
  obtain ⟨j, j1, j2, j3⟩ := cn_1 h1
  refine ⟨j, j1, j2, ?_, ?_⟩
  · have e1 : bs V T = (1 : Int32) <<< (nI j &&& 31) := by
      rw [bs_one j1 (by omega)]
      exact bs_congr (by omega) (fun x hx => by
        by_cases hxj : x = j
        · subst hxj; simp [j2]
        · cases hv : V x with
          | true => exact absurd (j3 x hx hv) hxj
          | false => simp [hxj])
    rw [e1]
    have key : ∀ j, j < 16 → (1 : Int32) <<< (nI j &&& 31) = nI (2 ^ j) := by decide +kernel
    exact key j (by omega)
  · rcases ff_cases (fun z => V z = true) T 0 with ⟨-, g⟩ | ⟨z, -, g2, g3, g4, -⟩
    · exact absurd j2 (g j (by omega) (by omega))
    · rw [g4, j3 z (by omega) g3]
/-- what is mentioned, behind the first k NPs -/
def men (T : Nat) (mn : Nat → Nat → Bool) (M : Nat) (v : Nat → Int32) : Nat → Nat × (Nat → Int32)
  | 0 => (M, v)
  | k + 1 => if cn (mn k) T = 1 then ((men T mn M v k).1 + 1, updf (men T mn M v k).2 (men T mn M v k).1 (ff (fun z => mn k z = true) 0 T)) else men T mn M v k
theorem men_le {mn : Nat → Nat → Bool} {M : Nat} {v : Nat → Int32} : ∀ k, (men T mn M v k).1 ≤ M + k := by
  intro k
  induction k with
  | zero => exact Nat.le_refl _
  | succ k ih =>
    unfold men
    split
    · show (men T mn M v k).1 + 1 ≤ _; omega
    · omega
theorem men_ok {mn : Nat → Nat → Bool} {M : Nat} {v : Nat → Int32} (h16 : T ≤ 16) (hv : ∀ i, i < M → ∃ x, x < T ∧ v i = nI x) : ∀ k i, i < (men T mn M v k).1 → ∃ x, x < T ∧ (men T mn M v k).2 i = nI x := by
  intro k
  induction k with
  | zero => exact hv
  | succ k ih =>
    intro i hi
    unfold men at hi ⊢
    by_cases h1 : cn (mn k) T = 1
    · rw [if_pos h1] at hi
      rw [if_pos h1]
      obtain ⟨j, j1, j2, j3, j4⟩ := bs_single h16 h1
      show ∃ x, x < T ∧ updf (men T mn M v k).2 (men T mn M v k).1 (ff (fun z => mn k z = true) 0 T) i = nI x
      by_cases hie : i = (men T mn M v k).1
      · subst hie; rw [updf_s]; exact ⟨j, j1, j4⟩
      · rw [updf_n hie]
        exact ih i (by have : i < (men T mn M v k).1 + 1 := hi; omega)
    · rw [if_neg h1] at hi
      rw [if_neg h1]
      exact ih i hi
end P47

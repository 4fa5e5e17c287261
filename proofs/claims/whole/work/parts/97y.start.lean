theorem INV_start {L : Nat → Nat → Int64} {R : Nat → Nat → Option Nat} (hR : RG R 24 25) (hL : ∀ k, k < 29 → L 45 k = in_W.getD k 0) : INVx 0 in_I2 L R 24 25 := by
  refine ⟨hR, Or.inl ⟨rfl, rfl⟩, 0, 0, 0, 0, 0, 0, fun _ => default, fun _ _ => 0, fun _ => none, fun _ => [], none, ?_, ?_, ?_, ?_, ?_, ?_⟩
  · refine ⟨by decide, by decide, rfl, rfl, rfl, rfl, ⟨rfl, rfl, rfl, rfl⟩, rfl, fun k hk => absurd hk (by omega), ?_⟩
    refine ⟨fun i hi => absurd hi (by omega), fun i _ hi => absurd hi (by omega), fun i _ _ hi => absurd hi (by omega), fun i hi => absurd hi (by omega), fun i hi => absurd hi (by omega), fun i => i, fun i hi => absurd hi (by omega), fun i _ hi => absurd hi (by omega), fun i _ hi => absurd hi (by omega)⟩
  · exact ⟨by decide, rfl, rfl, fun k hk => absurd hk (by omega)⟩
  · refine ⟨by decide, by decide, rfl, rfl, rfl, rfl, fun k hk => absurd hk (by omega), ⟨0, by decide, rfl, rfl, fun x hx => ?_, fun k hk => absurd hk (by omega)⟩, ⟨0, 0, by decide, by decide, rfl, rfl, rfl, rfl, fun _ => rfl, fun h => absurd h (by omega)⟩⟩
    have z2 : in_I2 15 2 = 0 := rfl
    have z3 : in_I2 15 3 = 0 := rfl
    rw [z2, z3]
    unfold bt
    rw [show (0 : Int32).toBitVec = 0#32 from rfl, BitVec.getLsbD_zero]
    exact ⟨rfl, rfl⟩
  · exact ⟨rfl, by decide, rfl, rfl, fun k hk => absurd hk (by omega), fun k hk => absurd hk (by omega), hL⟩
  · exact ⟨rfl, rfl, fun v hv => absurd hv (by simp)⟩
  · exact Or.inl ⟨rfl, rfl⟩
theorem INV_Init : lw_Init INV := by
  obtain ⟨h1, L2, R2, e1, e2, e3, hR, -, hL⟩ := in_start
  exact ⟨h1, _, e1, e2, e3, 0, in_I2, L2, R2, 24, 25, rfl, INV_start hR hL⟩
theorem as_0 {as : List Value} (h : as.length = 0) : as = [] := List.eq_nil_of_length_eq_zero h
theorem as_s {as : List Value} {n : Nat} (h : as.length = n + 1) (hi : as.all rt_isI = true) : ∃ x r, as = .int x :: r ∧ r.length = n ∧ r.all rt_isI = true := by
  cases as with
  | nil => cases h
  | cons v r =>
    rw [List.all_cons, Bool.and_eq_true] at hi
    rw [List.length_cons] at h
    cases v with
    | int x => exact ⟨x, r, rfl, by omega, hi.2⟩
    | _ => exact absurd hi.1 (by simp [rt_isI])
theorem LPr_pair {mx mm : Nat} {as lx lm : List Value} (hx : rt_ini mx (.ref 0 :: as) = lx) (hm : rt_ini mm (.ref 33 :: as) = lm) (h : ∀ e I L R a b, INVx e I L R a b → LPr e I L R mx mm lx lm) : lw_pair INV mx mm as := by
  intro h0 hI
  obtain ⟨e, I, L, R, a, b, rfl, hI⟩ := hI
  rw [hx, hm]
  exact h e I L R a b hI
theorem all_0 {mx mm : Nat} {lx lm : List Value} (hx : rt_ini mx [.ref 0] = lx) (hm : rt_ini mm [.ref 33] = lm) (h : ∀ e I L R a b, INVx e I L R a b → LPr e I L R mx mm lx lm) : ∀ as : List Value, as.length = 0 → as.all rt_isI = true → lw_pair INV mx mm as := by
  intro as h0 _
  rw [as_0 h0]
  exact LPr_pair hx hm h
theorem all_1 {mx mm : Nat} {lx lm : Int32 → List Value} (hx : ∀ x, rt_ini mx [.ref 0, .int x] = lx x) (hm : ∀ x, rt_ini mm [.ref 33, .int x] = lm x) (h : ∀ x e I L R a b, INVx e I L R a b → LPr e I L R mx mm (lx x) (lm x)) : ∀ as : List Value, as.length = 1 → as.all rt_isI = true → lw_pair INV mx mm as := by
  intro as h0 hi
  obtain ⟨x, r, rfl, h1, i1⟩ := as_s h0 hi
  rw [as_0 h1]
  exact LPr_pair (hx x) (hm x) (h x)
theorem all_2 {mx mm : Nat} {lx lm : Int32 → Int32 → List Value} (hx : ∀ x y, rt_ini mx [.ref 0, .int x, .int y] = lx x y) (hm : ∀ x y, rt_ini mm [.ref 33, .int x, .int y] = lm x y) (h : ∀ x y e I L R a b, INVx e I L R a b → LPr e I L R mx mm (lx x y) (lm x y)) : ∀ as : List Value, as.length = 2 → as.all rt_isI = true → lw_pair INV mx mm as := by
  intro as h0 hi
  obtain ⟨x, r, rfl, h1, i1⟩ := as_s h0 hi
  obtain ⟨y, r, rfl, h2, i2⟩ := as_s h1 i1
  rw [as_0 h2]
  exact LPr_pair (hx x y) (hm x y) (h x y)
theorem all_3 {mx mm : Nat} {lx lm : Int32 → Int32 → Int32 → List Value} (hx : ∀ x y z, rt_ini mx [.ref 0, .int x, .int y, .int z] = lx x y z) (hm : ∀ x y z, rt_ini mm [.ref 33, .int x, .int y, .int z] = lm x y z) (h : ∀ x y z e I L R a b, INVx e I L R a b → LPr e I L R mx mm (lx x y z) (lm x y z)) : ∀ as : List Value, as.length = 3 → as.all rt_isI = true → lw_pair INV mx mm as := by
  intro as h0 hi
  obtain ⟨x, r, rfl, h1, i1⟩ := as_s h0 hi
  obtain ⟨y, r, rfl, h2, i2⟩ := as_s h1 i1
  obtain ⟨z, r, rfl, h3, i3⟩ := as_s h2 i2
  rw [as_0 h3]
  exact LPr_pair (hx x y z) (hm x y z) (h x y z)
theorem all_5 {mx mm : Nat} {lx lm : Int32 → Int32 → Int32 → Int32 → Int32 → List Value} (hx : ∀ x y z u w, rt_ini mx [.ref 0, .int x, .int y, .int z, .int u, .int w] = lx x y z u w) (hm : ∀ x y z u w, rt_ini mm [.ref 33, .int x, .int y, .int z, .int u, .int w] = lm x y z u w) (h : ∀ x y z u w e I L R a b, INVx e I L R a b → LPr e I L R mx mm (lx x y z u w) (lm x y z u w)) : ∀ as : List Value, as.length = 5 → as.all rt_isI = true → lw_pair INV mx mm as := by
  intro as h0 hi
  obtain ⟨x, r, rfl, h1, i1⟩ := as_s h0 hi
  obtain ⟨y, r, rfl, h2, i2⟩ := as_s h1 i1
  obtain ⟨z, r, rfl, h3, i3⟩ := as_s h2 i2
  obtain ⟨u, r, rfl, h4, i4⟩ := as_s h3 i3
  obtain ⟨w, r, rfl, h5, i5⟩ := as_s h4 i4
  rw [as_0 h5]
  exact LPr_pair (hx x y z u w) (hm x y z u w) (h x y z u w)
/-- all 24, when say is one of them -/
theorem INV_All (hs : ∀ x e I L R a b, INVx e I L R a b → LPr e I L R mX9_say mX10_say [.ref 0, .int x, .float 0] [.ref 33, .int x, .float 0]) : lw_All INV := by
  refine ⟨?_, ?_, ?_, ?_, ?_, ?_, ?_, ?_, ?_, ?_, ?_, ?_, ?_, ?_, ?_, ?_, ?_, ?_, ?_, ?_, ?_, ?_, ?_, ?_⟩
  · exact all_3 (fun _ _ _ => rfl) (fun _ _ _ => rfl) (fun x y z e I L R a b h => lp_thing h)
  · exact all_2 (fun _ _ => rfl) (fun _ _ => rfl) (fun x y e I L R a b h => lp_act h)
  · exact all_0 rfl rfl (fun e I L R a b h => lp_undo h)
  · exact all_1 (fun _ => rfl) (fun _ => rfl) (fun x e I L R a b h => lp_where h)
  · exact all_2 (fun _ _ => rfl) (fun _ _ => rfl) (fun x y e I L R a b h => lp_over h)
  · exact all_2 (fun _ _ => rfl) (fun _ _ => rfl) (fun x y e I L R a b h => lp_was h)
  · exact all_2 (fun _ _ => rfl) (fun _ _ => rfl) (fun x y e I L R a b h => lp_event h)
  · exact all_5 (fun _ _ _ _ _ => rfl) (fun _ _ _ _ _ => rfl) (fun x y z u w e I L R a b h => lp_feed h)
  · exact all_1 (fun _ => rfl) (fun _ => rfl) hs
  · exact all_2 (fun _ _ => rfl) (fun _ _ => rfl) (fun x y e I L R a b h => lp_reading h)
  · exact all_2 (fun _ _ => rfl) (fun _ _ => rfl) (fun x y e I L R a b h => lp_means h)
  · exact all_2 (fun _ _ => rfl) (fun _ _ => rfl) (fun x y e I L R a b h => lp_trouble h)
  · exact all_0 rfl rfl (fun e I L R a b h => lp_taken h)
  · exact all_0 rfl rfl (fun e I L R a b h => lp_answer h)
  · exact all_1 (fun _ => rfl) (fun _ => rfl) (fun x e I L R a b h => lp_plan h)
  · exact all_0 rfl rfl (fun e I L R a b h => lp_done h)
  · exact all_1 (fun _ => rfl) (fun _ => rfl) (fun x e I L R a b h => lp_mentioned h)
  · exact all_1 (fun _ => rfl) (fun _ => rfl) (fun x e I L R a b h => lp_owned h)
  · exact all_1 (fun _ => rfl) (fun _ => rfl) (fun x e I L R a b h => lp_judge h)
  · exact all_1 (fun _ => rfl) (fun _ => rfl) (fun x e I L R a b h => lp_breaks h)
  · exact all_1 (fun _ => rfl) (fun _ => rfl) (fun x e I L R a b h => lp_acts h)
  · exact all_1 (fun _ => rfl) (fun _ => rfl) (fun x e I L R a b h => lp_noun h)
  · exact all_1 (fun _ => rfl) (fun _ => rfl) (fun x e I L R a b h => lp_check h)
  · exact all_1 (fun _ => rfl) (fun _ => rfl) (fun x e I L R a b h => lp_count h)

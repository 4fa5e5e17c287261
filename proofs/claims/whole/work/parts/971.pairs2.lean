section P45
variable {e : Nat} {I I1 I2 : Nat → Nat → Int32} {L : Nat → Nat → Int64} {R : Nat → Nat → Option Nat} {a b T E j n : Nat} {x y k w u to_ v1 v2 v3 v4 v5 c2 z2 : Int32} {so : Nat → Int32} {g : SgT} {mx mm : Nat} {lx lm : List Value}
theorem lp_thing (h : INVx e I L R a b) : LPr e I L R mX9_thing mX10_thing [.ref 0, .int x, .int c2, .int z2] [.ref 33, .int x, .int c2, .int z2] := by
  have h0 := h
  obtain ⟨hR, hab, T, E, n, S, M, nw, tp, td, to2, wl, ln, g1, g2, g3, g4, g5, g6⟩ := h
  obtain ⟨r1, r2, r3, r4, r5, r6, ⟨q1, q2, q3, q4⟩, r8, r9, r10⟩ := g1
  by_cases hk : okT x c2 z2 ∧ T < 16
  · obtain ⟨k1, k2⟩ := hk
    have hx := x_thing_ok (e := e) (L := L) hR r3 k2 k1
    obtain ⟨IX, hIX⟩ : ∃ IX, IX = rt_up (rt_up (rt_up (rt_up (rt_up I 2 T x) 3 T c2) 4 T z2) 5 T 16) 1 5 (nI (T + 1)) := ⟨_, rfl⟩
    rw [← hIX] at hx
    have fX : ∀ c, c ≠ 1 → c ≠ 2 → c ≠ 3 → c ≠ 4 → c ≠ 5 → IX c = I c := fun c a1 a2 a3 a4 a5 => by rw [hIX, rt_up_f a1, rt_up_f a5, rt_up_f a4, rt_up_f a3, rt_up_f a2]
    have hm := m_thing_ok (e := e) (I := IX) (L := L) (s := x) (c := c2) (z := z2) hR (by rw [fX 33 (by omega) (by omega) (by omega) (by omega) (by omega)]; exact r4) k2 k1
    obtain ⟨IM, hIM⟩ : ∃ IM, IM = rt_up (rt_up (rt_up (rt_up (rt_up IX 34 T x) 35 T c2) 36 T z2) 37 T 16) 33 0 (nI (T + 1)) := ⟨_, rfl⟩
    rw [← hIM] at hm
    have fM : ∀ c, c ≠ 33 → c < 34 ∨ 37 < c → IM c = IX c := fun c a1 a2 => by rw [hIM, rt_up_f a1, rt_up_f (by omega), rt_up_f (by omega), rt_up_f (by omega), rt_up_f (by omega)]
    have f33 : ∀ k, k ≠ 0 → IM 33 k = I 33 k := fun k hk => by rw [hIM, rt_up_n2 hk, rt_up_n1 (by omega), rt_up_n1 (by omega), rt_up_n1 (by omega), rt_up_n1 (by omega), fX 33 (by omega) (by omega) (by omega) (by omega) (by omega)]
    have fA : ∀ c, 5 < c → c ≠ 33 → c < 34 ∨ 37 < c → IM c = I c := fun c a1 a2 a3 => by rw [fM c a2 a3, fX c (by omega) (by omega) (by omega) (by omega) (by omega)]
    have i2 : IM 2 = updf (I 2) T x := by rw [fM 2 (by omega) (by omega), hIX, rt_up_f (by omega), rt_up_f (by omega), rt_up_f (by omega), rt_up_f (by omega), updf_up]
    have i3 : IM 3 = updf (I 3) T c2 := by rw [fM 3 (by omega) (by omega), hIX, rt_up_f (by omega), rt_up_f (by omega), rt_up_f (by omega), updf_up, rt_up_f (by omega)]
    have i4 : IM 4 = updf (I 4) T z2 := by rw [fM 4 (by omega) (by omega), hIX, rt_up_f (by omega), rt_up_f (by omega), updf_up, rt_up_f (by omega), rt_up_f (by omega)]
    have i5 : IM 5 = updf (I 5) T 16 := by rw [fM 5 (by omega) (by omega), hIX, rt_up_f (by omega), updf_up, rt_up_f (by omega), rt_up_f (by omega), rt_up_f (by omega)]
    have i1 : ∀ k, k ≠ 5 → IM 1 k = I 1 k := fun k hk => by rw [fM 1 (by omega) (by omega), hIX, rt_up_n2 hk, rt_up_n1 (by omega), rt_up_n1 (by omega), rt_up_n1 (by omega), rt_up_n1 (by omega)]
    have i34 : IM 34 = updf (I 34) T x := by rw [hIM, rt_up_f (by omega), rt_up_f (by omega), rt_up_f (by omega), rt_up_f (by omega), updf_up, fX 34 (by omega) (by omega) (by omega) (by omega) (by omega)]
    have i35 : IM 35 = updf (I 35) T c2 := by rw [hIM, rt_up_f (by omega), rt_up_f (by omega), rt_up_f (by omega), updf_up, rt_up_f (by omega), fX 35 (by omega) (by omega) (by omega) (by omega) (by omega)]
    have i36 : IM 36 = updf (I 36) T z2 := by rw [hIM, rt_up_f (by omega), rt_up_f (by omega), updf_up, rt_up_f (by omega), rt_up_f (by omega), fX 36 (by omega) (by omega) (by omega) (by omega) (by omega)]
    have i37 : IM 37 = updf (I 37) T 16 := by rw [hIM, rt_up_f (by omega), updf_up, rt_up_f (by omega), rt_up_f (by omega), rt_up_f (by omega), fX 37 (by omega) (by omega) (by omega) (by omega) (by omega)]
    have hH2 : IM 1 7 = ff (fun i => IM 5 i = 17) 0 (T + 1) := by
      rw [i1 7 (by omega), r8, i5]
      have key : ∀ n y, y + n = T → ff (fun i => I 5 i = 17) y n = ff (fun i => updf (I 5) T 16 i = 17) y (n + 1) := by
        intro n
        induction n with
        | zero =>
          intro y hy
          have : y = T := by omega
          subst this
          simp only [ff]
          rw [if_neg (show ¬ updf (I 5) y 16 y = 17 by rw [updf_s]; decide)]
        | succ n ih =>
          intro y hy
          have h1 := ih (y + 1) (by omega)
          show (if I 5 y = 17 then nI y else ff (fun i => I 5 i = 17) (y + 1) n) = (if updf (I 5) T 16 y = 17 then nI y else ff (fun i => updf (I 5) T 16 i = 17) (y + 1) (n + 1))
          rw [h1]
          have hu : updf (I 5) T 16 y = I 5 y := updf_n (by omega)
          by_cases h17 : I 5 y = 17
          · rw [if_pos h17, if_pos (by rw [hu]; exact h17)]
          · rw [if_neg h17, if_neg (by rw [hu]; exact h17)]
      exact key T 0 (by omega)
    refine ⟨_, _, _, hx, hm, e, IM, L, R, a, b, rfl, hR, hab, T + 1, E, n, S, M, nw, tp, td, to2, wl, ln, ?_, ?_, ?_, ?_, ?_, ?_⟩
    · refine ⟨by omega, r2, ?_, ?_, by rw [i1 6 (by omega)]; exact r5, by rw [f33 1 (by omega)]; exact r6, ⟨by rw [i34, i2, q1], by rw [i35, i3, q2], by rw [i36, i4, q3], by rw [i37, i5, q4]⟩, hH2, fun k hk => ?_, ?_⟩
      · rw [fM 1 (by omega) (by omega), hIX, rt_up_eq]
      · rw [hIM, rt_up_eq]
      · rw [fA 6 (by omega) (by omega) (by omega), fA 38 (by omega) (by omega) (by omega), fA 39 (by omega) (by omega) (by omega), fA 40 (by omega) (by omega) (by omega), fA 41 (by omega) (by omega) (by omega), fA 42 (by omega) (by omega) (by omega), fA 43 (by omega) (by omega) (by omega)]
        exact r9 k hk
      · rw [i2, i5, fA 39 (by omega) (by omega) (by omega), fA 43 (by omega) (by omega) (by omega)]
        exact Hist_add k2 r10
    · exact GTape_fr g2 (fA 7 (by omega) (by omega) (by omega)) (fA 8 (by omega) (by omega) (by omega)) (fA 44 (by omega) (by omega) (by omega)) (f33 13 (by omega))
    · exact GMem_T (GMem_fr g3 (fA 15 (by omega) (by omega) (by omega)) (fA 16 (by omega) (by omega) (by omega)) (fA 62 (by omega) (by omega) (by omega)) (fA 69 (by omega) (by omega) (by omega)) (fA 70 (by omega) (by omega) (by omega)) (fun k hk => f33 k (by omega))) (by omega)
    · exact GWord_fr g4 (fun c hc => fA c (by omega) (by omega) (by omega)) (f33 22 (by omega))
    · exact GLast_fr g5 (by rw [fA 15 (by omega) (by omega) (by omega)]) (f33 46 (by omega))
    · exact GHand_fr g6 (fun c hc => fA c (by omega) (by omega) (by omega)) (by rw [fA 15 (by omega) (by omega) (by omega)]) (fun k hk => f33 k (by omega)) hH2
  · have hk' : ¬ okT x c2 z2 ∨ T = 16 := by
      by_cases h1 : okT x c2 z2
      · exact Or.inr (by have : ¬ T < 16 := fun h2 => hk ⟨h1, h2⟩; omega)
      · exact Or.inl h1
    exact LPr_same h0 (x_thing_no hR r3 r1 hk') (m_thing_no hR r4 r1 hk')
theorem cX01 {hd : Int32} {at_ : Nat → Int32} : cXi hd T so at_ k j = 1 ∨ cXi hd T so at_ k j = 0 := by
  unfold cXi
  repeat' split
  all_goals first | exact Or.inl rfl | exact Or.inr rfl
theorem cX01o {hd : Int32} : cXo hd k x = 1 ∨ cXo hd k x = 0 := by
  unfold cXo
  repeat' split
  all_goals first | exact Or.inl rfl | exact Or.inr rfl
theorem alw_k {at_ : Nat → Int32} (h : alw T so at_ k x j to_) : k = 0 ∨ k = 1 ∨ k = 2 ∨ k = 3 := by
  rcases h.2 with ⟨h, -⟩ | ⟨-, ⟨h, -⟩ | ⟨h, -⟩ | ⟨h, -⟩⟩
  · exact Or.inl h
  · exact Or.inr (Or.inl h)
  · exact Or.inr (Or.inr (Or.inl h))
  · exact Or.inr (Or.inr (Or.inr h))
theorem k03 (h : ¬ k < 0 ∧ ¬ 3 < k) : k = 0 ∨ k = 1 ∨ k = 2 ∨ k = 3 := by
  obtain ⟨h1, h2⟩ := h
  obtain ⟨m, hm, rfl⟩ := nI_of h1
  have e3 : (3 : Int32) = nI 3 := rfl
  rw [e3, q_lt (by omega) (by omega)] at h2
  have : m = 0 ∨ m = 1 ∨ m = 2 ∨ m = 3 := by omega
  rcases this with rfl | rfl | rfl | rfl
  · exact Or.inl rfl
  · exact Or.inr (Or.inl rfl)
  · exact Or.inr (Or.inr (Or.inl rfl))
  · exact Or.inr (Or.inr (Or.inr rfl))
theorem lp_act (h : INVx e I L R a b) : LPr e I L R mX9_act mX10_act [.ref 0, .int k, .int x] [.ref 33, .int k, .int x] := by
  have h0 := h
  obtain ⟨hR, hab, T, E, n, S, M, nw, tp, td, to2, wl, ln, g1, g2, g3, g4, g5, g6⟩ := h
  obtain ⟨g, rfl, gx, gm, gh⟩ := GRoom_of g1
  have h16 := g1.1
  have hE := g1.2.1
  have hO := Hist_ok gh
  have q := g1.2.2.2.2.2.2.1
  have r8 := g1.2.2.2.2.2.2.2.1
  have gx' := gx
  obtain ⟨r3, r5, -, r4, r7, -⟩ := gx'
  have gm' := gm
  obtain ⟨s3, s5, s1, s4, -⟩ := gm'
  by_cases hA : g.1 < 200 ∧ ∃ j to_, alw T (I 2) g.2.1 k x j to_
  · obtain ⟨h200, j, to_, ha⟩ := hA
    obtain ⟨IX, hX1, hX2, hX3⟩ := x_perf (e := e) (L := L) (w := -1) (u := -1) hR gx h16 hO h200 ha
    have gmX := RMr_fr (I2 := IX) gm (by rw [hX3 33 (by omega) (by omega) (by omega)]) (by rw [hX3 33 (by omega) (by omega) (by omega)]) (fun c h1 h2 => hX3 c (by omega) (by omega) (by omega))
    obtain ⟨IM, hM1, hM2, hM3, hM4⟩ := m_happ (e := e) (I := IX) (L := L) (w := -1) (u := -1) hR gmX h16 hO h200 ha
    obtain ⟨c1, c2, c3⟩ := alw_cX ha h16 hO
    have hj := ha.1
    have hkk := alw_k ha
    have hk03 : ¬ k < 0 ∧ ¬ 3 < k := by rcases hkk with rfl | rfl | rfl | rfl <;> decide
    have hcan : Ev mX10_can 0 [.ref 33, .int k, .int x] [] (71 + e, IX, L, R) = some (some (.int 1), (71 + e, IX, L, R)) := by
      have t0 := gmX.1
      have t1 := gmX.2.2.1
      have t4 := gmX.2.2.2.1
      rcases c3 with ⟨rfl, c⟩ | ⟨y, y1, rfl, c⟩
      · have := m_can_out (e := e) (I := IX) (L := L) (k := k) hR t0 h16 (x := -1) (Or.inl (by decide))
        rw [t4, can_eqo hkk, c] at this
        exact this
      · have := m_can_in (e := e) (I := IX) (L := L) (k := k) hR t0 h16 y1
        rw [t4, t1, can_eq hO h16 y1 rfl hkk, c] at this
        exact this
    have hma := m_act_ok (e := e) (I := IX) (L := L) hR gmX.1 h16 gmX.2.1 h200 hk03 hcan (by rw [gmX.2.2.2.1]; exact c1) hj
    have hmp := m_happens (e := e) (I := IX) (L := L) (w := -1) (u := -1) hR gmX.1 h16 gmX.2.1 h200 (by rw [gmX.2.2.2.1]; exact c1) hj
    rw [hmp] at hM1
    have hIM : IM = hpI IX g.1 j k (if k = 0 then 17 else if k = 2 then 16 else x) (-1) (-1) := by
      have := Option.some.inj hM1
      have := (Prod.mk.inj this).2
      have := (Prod.mk.inj this).2
      exact (Prod.mk.inj this).1.symm
    rw [← hIM] at hma
    have fA : ∀ c, c ≠ 1 → c ≠ 5 → c ≠ 6 → c ≠ 33 → c < 37 ∨ 43 < c → IM c = I c := fun c a1 a2 a3 a4 a5 => by rw [hM3 c a4 a5, hX3 c a1 a2 a3]
    have f33 : ∀ q, q ≠ 1 → IM 33 q = I 33 q := fun q hq => by rw [hM4 q hq, hX3 33 (by omega) (by omega) (by omega)]
    have gx2 := RXr_fr (I2 := IM) hX2 (hM3 1 (by omega) (by omega)) (hM3 2 (by omega) (by omega)) (hM3 5 (by omega) (by omega)) (hM3 6 (by omega) (by omega))
    have hG : GRoom IM T (g.1 + 1) := GRoom_mk (g := sgS g j k to_ (-1) (-1)) h16 (by show g.1 + 1 ≤ 200; omega) gx2 hM2 (by rw [fA 35 (by omega) (by omega) (by omega) (by omega) (by omega), fA 3 (by omega) (by omega) (by omega) (by omega) (by omega)]; exact q.2.1) (by rw [fA 36 (by omega) (by omega) (by omega) (by omega) (by omega), fA 4 (by omega) (by omega) (by omega) (by omega) (by omega)]; exact q.2.2.1) (Hist_mv h16 gh ha)
    refine ⟨_, _, _, x_act hR hX1, hma, e, IM, L, R, a, b, rfl, hR, hab, T, g.1 + 1, n, S, M, nw, tp, td, to2, wl, ln, hG, ?_, ?_, ?_, ?_, ?_⟩
    · exact GTape_fr g2 (fA 7 (by omega) (by omega) (by omega) (by omega) (by omega)) (fA 8 (by omega) (by omega) (by omega) (by omega) (by omega)) (fA 44 (by omega) (by omega) (by omega) (by omega) (by omega)) (f33 13 (by omega))
    · exact GMem_fr g3 (fA 15 (by omega) (by omega) (by omega) (by omega) (by omega)) (fA 16 (by omega) (by omega) (by omega) (by omega) (by omega)) (fA 62 (by omega) (by omega) (by omega) (by omega) (by omega)) (fA 69 (by omega) (by omega) (by omega) (by omega) (by omega)) (fA 70 (by omega) (by omega) (by omega) (by omega) (by omega)) (fun k hk => f33 k (by omega))
    · exact GWord_fr g4 (fun c hc => fA c (by omega) (by omega) (by omega) (by omega) (by omega)) (f33 22 (by omega))
    · exact GLast_fr g5 (by rw [fA 15 (by omega) (by omega) (by omega) (by omega) (by omega)]) (f33 46 (by omega))
    · exact GHand_fr g6 (fun c hc => fA c (by omega) (by omega) (by omega) (by omega) (by omega)) (by rw [fA 15 (by omega) (by omega) (by omega) (by omega) (by omega)]) (fun k hk => f33 k (by omega)) hG.2.2.2.2.2.2.2.1
  · have hax : g.1 < 200 → ∀ c : Int32, (c = 1 → ∃ j to_, alw T (I 2) g.2.1 k x j to_) → (c = 1 ∨ c = 0) → c = 0 := by
      intro h2 c h3 h4
      rcases h4 with h4 | h4
      · exact absurd ⟨h2, h3 h4⟩ hA
      · exact h4
    rcases xio x (T := T) (by omega) with ho | ⟨y, hy, rfl⟩
    · have hz : g.1 < 200 → cXo (ff (fun i => g.2.1 i = 17) 0 T) k x = 0 := fun h2 => hax h2 _ (fun h => cXo_alw h) cX01o
      refine LPr_same h0 (x_act hR (x_perform_no hR r5 hE (fun h2 => ?_))) (m_act_no hR s5 hE (fun h3 h2 => ?_))
      · have := x_allows_out (e := e) (I := I) (L := L) (k := k) hR r3 h16 ho
        rw [r7, hz h2] at this
        exact this
      · have := m_can_out (e := e) (I := I) (L := L) (k := k) hR s3 h16 ho
        rw [s4, can_eqo (k03 h3), hz h2] at this
        exact this
    · have hz : g.1 < 200 → cXi (ff (fun i => g.2.1 i = 17) 0 T) T (I 2) g.2.1 k y = 0 := fun h2 => hax h2 _ (fun h => cXi_alw h16 hO hy h) cX01
      refine LPr_same h0 (x_act hR (x_perform_no hR r5 hE (fun h2 => ?_))) (m_act_no hR s5 hE (fun h3 h2 => ?_))
      · have := x_allows_in (e := e) (I := I) (L := L) (k := k) hR r3 h16 hy
        rw [r7, r4, hz h2] at this
        exact this
      · have := m_can_in (e := e) (I := I) (L := L) (k := k) hR s3 h16 hy
        rw [s4, s1, can_eq hO h16 hy rfl (k03 h3), hz h2] at this
        exact this
end P45

/-- room and log: (events, places, kind, thing, to, for, saying, from) -/
abbrev SgT : Type := Nat × (Nat → Int32) × (Nat → Int32) × (Nat → Int32) × (Nat → Int32) × (Nat → Int32) × (Nat → Int32) × (Nat → Int32)
def sgS (g : SgT) (j : Nat) (k to_ w u : Int32) : SgT :=
  (g.1 + 1, updf g.2.1 j to_, updf g.2.2.1 g.1 k, updf g.2.2.2.1 g.1 (nI j), updf g.2.2.2.2.1 g.1 to_, updf g.2.2.2.2.2.1 g.1 w, updf g.2.2.2.2.2.2.1 g.1 u, updf g.2.2.2.2.2.2.2 g.1 (g.2.1 j))
def RXr (I : Nat → Nat → Int32) (T : Nat) (so : Nat → Int32) (g : SgT) : Prop :=
  I 1 5 = nI T ∧ I 1 6 = nI g.1 ∧ I 2 = so ∧ I 5 = g.2.1 ∧ I 1 7 = ff (fun i => g.2.1 i = 17) 0 T ∧ ∀ k, k < g.1 → I 6 (6 * k) = g.2.2.1 k ∧ I 6 (6 * k + 1) = g.2.2.2.1 k ∧ I 6 (6 * k + 2) = g.2.2.2.2.1 k ∧ I 6 (6 * k + 3) = g.2.2.2.2.2.1 k ∧ I 6 (6 * k + 4) = g.2.2.2.2.2.2.1 k ∧ I 6 (6 * k + 5) = g.2.2.2.2.2.2.2 k
def RMr (I : Nat → Nat → Int32) (T : Nat) (so : Nat → Int32) (g : SgT) : Prop :=
  I 33 0 = nI T ∧ I 33 1 = nI g.1 ∧ I 34 = so ∧ I 37 = g.2.1 ∧ ∀ k, k < g.1 → I 38 k = g.2.2.1 k ∧ I 39 k = g.2.2.2.1 k ∧ I 40 k = g.2.2.2.2.1 k ∧ I 41 k = g.2.2.2.2.2.1 k ∧ I 42 k = g.2.2.2.2.2.2.1 k ∧ I 43 k = g.2.2.2.2.2.2.2 k
section P43
variable {e : Nat} {I I1 I2 : Nat → Nat → Int32} {L : Nat → Nat → Int64} {R : Nat → Nat → Option Nat} {a b T E j n : Nat} {x k w u to_ : Int32} {so : Nat → Int32} {g : SgT}
theorem x_allow1 (hR : RG R a b) (h : RXr I T so g) (h16 : T ≤ 16) (hO : RoomOK T so g.2.1) (ha : alw T so g.2.1 k x j to_) : Ev mX3_allows 0 [.ref 1, .int k, .int x] [] (71 + e, I, L, R) = some (some (.int 1), (71 + e, I, L, R)) := by
  obtain ⟨r1, r2, r3, r4, r5, -⟩ := h
  obtain ⟨-, -, c3⟩ := alw_cX ha h16 hO
  rcases c3 with ⟨rfl, c⟩ | ⟨y, y1, rfl, c⟩
  · have := x_allows_out (e := e) (I := I) (L := L) (k := k) hR r1 h16 (x := -1) (Or.inl (by decide))
    rw [r5, c] at this
    exact this
  · have := x_allows_in (e := e) (I := I) (L := L) (k := k) hR r1 h16 y1
    rw [r5, r3, r4, c] at this
    exact this
theorem x_perf (hR : RG R a b) (h : RXr I T so g) (h16 : T ≤ 16) (hO : RoomOK T so g.2.1) (h200 : g.1 < 200) (ha : alw T so g.2.1 k x j to_) :
    ∃ I2, Ev mX3_perform 0 [.ref 1, .int k, .int x, .int w, .int u, .float 0, .float 0, .float 0] [] (71 + e, I, L, R) = some (some (.int (nI g.1)), (71 + e, I2, L, R)) ∧ RXr I2 T so (sgS g j k to_ w u) ∧ ∀ c, c ≠ 1 → c ≠ 5 → c ≠ 6 → I2 c = I c := by
  have hal := x_allow1 (e := e) (L := L) hR h h16 hO ha
  obtain ⟨r1, r2, r3, r4, r5, r6⟩ := h
  obtain ⟨c1, c2, -⟩ := alw_cX ha h16 hO
  have hj := ha.1
  have hp := x_perform_ok (e := e) (L := L) (w := w) (u := u) hR r1 h16 r2 h200 hal (by rw [r5]; exact c1) hj
  rw [← c2] at hp
  refine ⟨_, hp, ⟨?_, ?_, ?_, ?_, ?_, fun q hq => ?_⟩, fun c h1 h5 h6 => ?_⟩
  · unfold pfI
    rw [rt_up_n2 (by omega), rt_up_n1 (by omega), rt_up_n2 (by omega), rt_up_n1 (by omega), rt_up_n1 (by omega), rt_up_n1 (by omega), rt_up_n1 (by omega), rt_up_n1 (by omega), rt_up_n1 (by omega)]
    exact r1
  · unfold pfI
    rw [rt_up_n2 (by omega), rt_up_n1 (by omega), rt_up_eq]
    rfl
  · unfold pfI
    rw [rt_up_f (by omega), rt_up_f (by omega), rt_up_f (by omega), rt_up_f (by omega), rt_up_f (by omega), rt_up_f (by omega), rt_up_f (by omega), rt_up_f (by omega), rt_up_f (by omega)]
    exact r3
  · unfold pfI
    rw [rt_up_f (by omega), updf_up, rt_up_f (by omega), rt_up_f (by omega), rt_up_f (by omega), rt_up_f (by omega), rt_up_f (by omega), rt_up_f (by omega), rt_up_f (by omega), r4]
    rfl
  · unfold pfI
    rw [rt_up_eq]
    show _ = ff (fun i => updf g.2.1 j to_ i = 17) 0 T
    have hO2 := room_mv ha h16 hO
    by_cases h17 : to_ = 17
    · rw [if_pos h17]
      exact (held_17 hO2 hj (by rw [updf_s]; exact h17)).symm
    · rw [if_neg h17]
      refine (held_no (fun i hi hh => ?_)).symm
      by_cases hij : i = j
      · subst hij; rw [updf_s] at hh; exact h17 hh
      · rw [updf_n hij] at hh
        rcases ha.2 with ⟨-, -, g1, -⟩ | ⟨g1, -⟩
        · exact h17 g1
        · exact hij (hO.2.1 i j hi hj hh g1)
  · have hs6 : pfI I g.1 j k to_ w u 6 = rt_up (rt_up (rt_up (rt_up (rt_up (rt_up I 6 (6 * g.1) k) 6 (6 * g.1 + 1) (nI j)) 6 (6 * g.1 + 2) to_) 6 (6 * g.1 + 3) w) 6 (6 * g.1 + 4) u) 6 (6 * g.1 + 5) (I 5 j) 6 := by
      unfold pfI
      rw [rt_up_f (show 6 ≠ 1 by omega), rt_up_f (show 6 ≠ 5 by omega), rt_up_f (show 6 ≠ 1 by omega)]
    rw [hs6]
    by_cases hqE : q = g.1
    · subst hqE
      refine ⟨?_, ?_, ?_, ?_, ?_, ?_⟩
      · rw [rt_up_n2 (by omega), rt_up_n2 (by omega), rt_up_n2 (by omega), rt_up_n2 (by omega), rt_up_n2 (by omega), rt_up_eq]; exact updf_s.symm
      · rw [rt_up_n2 (by omega), rt_up_n2 (by omega), rt_up_n2 (by omega), rt_up_n2 (by omega), rt_up_eq]; exact updf_s.symm
      · rw [rt_up_n2 (by omega), rt_up_n2 (by omega), rt_up_n2 (by omega), rt_up_eq]; exact updf_s.symm
      · rw [rt_up_n2 (by omega), rt_up_n2 (by omega), rt_up_eq]; exact updf_s.symm
      · rw [rt_up_n2 (by omega), rt_up_eq]; exact updf_s.symm
      · rw [rt_up_eq, r4]; exact updf_s.symm
    · have hq2 : q < g.1 := by have : q < g.1 + 1 := hq; omega
      obtain ⟨a1, a2, a3, a4, a5, a6⟩ := r6 q hq2
      refine ⟨?_, ?_, ?_, ?_, ?_, ?_⟩
      · rw [rt_up_n2 (by omega), rt_up_n2 (by omega), rt_up_n2 (by omega), rt_up_n2 (by omega), rt_up_n2 (by omega), rt_up_n2 (by omega), a1]; exact (updf_n hqE).symm
      · rw [rt_up_n2 (by omega), rt_up_n2 (by omega), rt_up_n2 (by omega), rt_up_n2 (by omega), rt_up_n2 (by omega), rt_up_n2 (by omega), a2]; exact (updf_n hqE).symm
      · rw [rt_up_n2 (by omega), rt_up_n2 (by omega), rt_up_n2 (by omega), rt_up_n2 (by omega), rt_up_n2 (by omega), rt_up_n2 (by omega), a3]; exact (updf_n hqE).symm
      · rw [rt_up_n2 (by omega), rt_up_n2 (by omega), rt_up_n2 (by omega), rt_up_n2 (by omega), rt_up_n2 (by omega), rt_up_n2 (by omega), a4]; exact (updf_n hqE).symm
      · rw [rt_up_n2 (by omega), rt_up_n2 (by omega), rt_up_n2 (by omega), rt_up_n2 (by omega), rt_up_n2 (by omega), rt_up_n2 (by omega), a5]; exact (updf_n hqE).symm
      · rw [rt_up_n2 (by omega), rt_up_n2 (by omega), rt_up_n2 (by omega), rt_up_n2 (by omega), rt_up_n2 (by omega), rt_up_n2 (by omega), a6]; exact (updf_n hqE).symm
  · unfold pfI
    rw [rt_up_f h1, rt_up_f h5, rt_up_f h1, rt_up_f h6, rt_up_f h6, rt_up_f h6, rt_up_f h6, rt_up_f h6, rt_up_f h6]
theorem m_happ (hR : RG R a b) (h : RMr I T so g) (h16 : T ≤ 16) (hO : RoomOK T so g.2.1) (h200 : g.1 < 200) (ha : alw T so g.2.1 k x j to_) :
    ∃ I2, Ev mX10_happens 0 [.ref 33, .int k, .int x, .int w, .int u, .float 0] [] (71 + e, I, L, R) = some (none, (71 + e, I2, L, R)) ∧ RMr I2 T so (sgS g j k to_ w u) ∧ (∀ c, c ≠ 33 → c < 37 ∨ 43 < c → I2 c = I c) ∧ ∀ q, q ≠ 1 → I2 33 q = I 33 q := by
  obtain ⟨r1, r2, r3, r4, r6⟩ := h
  obtain ⟨c1, c2, -⟩ := alw_cX ha h16 hO
  have hj := ha.1
  have hp := m_happens (e := e) (L := L) (w := w) (u := u) hR r1 h16 r2 h200 (by rw [r4]; exact c1) hj
  rw [← c2] at hp
  refine ⟨_, hp, ⟨?_, ?_, ?_, ?_, fun q hq => ?_⟩, fun c h1 h2 => ?_, fun q hq => ?_⟩
  · unfold hpI
    rw [rt_up_n2 (by omega), rt_up_n1 (by omega), rt_up_n1 (by omega), rt_up_n1 (by omega), rt_up_n1 (by omega), rt_up_n1 (by omega), rt_up_n1 (by omega), rt_up_n1 (by omega)]
    exact r1
  · unfold hpI
    rw [rt_up_eq]
    rfl
  · unfold hpI
    rw [rt_up_f (by omega), rt_up_f (by omega), rt_up_f (by omega), rt_up_f (by omega), rt_up_f (by omega), rt_up_f (by omega), rt_up_f (by omega), rt_up_f (by omega)]
    exact r3
  · unfold hpI
    rw [rt_up_f (by omega), updf_up, rt_up_f (by omega), rt_up_f (by omega), rt_up_f (by omega), rt_up_f (by omega), rt_up_f (by omega), rt_up_f (by omega), r4]
    rfl
  · have t38 : hpI I g.1 j k to_ w u 38 = updf (I 38) g.1 k := by
      unfold hpI
      rw [rt_up_f (by omega), rt_up_f (by omega), rt_up_f (by omega), rt_up_f (by omega), rt_up_f (by omega), rt_up_f (by omega), rt_up_f (by omega), updf_up]
    have t39 : hpI I g.1 j k to_ w u 39 = updf (I 39) g.1 (nI j) := by
      unfold hpI
      rw [rt_up_f (by omega), rt_up_f (by omega), rt_up_f (by omega), rt_up_f (by omega), rt_up_f (by omega), rt_up_f (by omega), updf_up, rt_up_f (by omega)]
    have t40 : hpI I g.1 j k to_ w u 40 = updf (I 40) g.1 to_ := by
      unfold hpI
      rw [rt_up_f (by omega), rt_up_f (by omega), rt_up_f (by omega), rt_up_f (by omega), rt_up_f (by omega), updf_up, rt_up_f (by omega), rt_up_f (by omega)]
    have t41 : hpI I g.1 j k to_ w u 41 = updf (I 41) g.1 w := by
      unfold hpI
      rw [rt_up_f (by omega), rt_up_f (by omega), rt_up_f (by omega), rt_up_f (by omega), updf_up, rt_up_f (by omega), rt_up_f (by omega), rt_up_f (by omega)]
    have t42 : hpI I g.1 j k to_ w u 42 = updf (I 42) g.1 u := by
      unfold hpI
      rw [rt_up_f (by omega), rt_up_f (by omega), rt_up_f (by omega), updf_up, rt_up_f (by omega), rt_up_f (by omega), rt_up_f (by omega), rt_up_f (by omega)]
    have t43 : hpI I g.1 j k to_ w u 43 = updf (I 43) g.1 (I 37 j) := by
      unfold hpI
      rw [rt_up_f (by omega), rt_up_f (by omega), updf_up, rt_up_f (by omega), rt_up_f (by omega), rt_up_f (by omega), rt_up_f (by omega), rt_up_f (by omega)]
    rw [t38, t39, t40, t41, t42, t43, r4]
    by_cases hqE : q = g.1
    · subst hqE
      exact ⟨updf_s.trans updf_s.symm, updf_s.trans updf_s.symm, updf_s.trans updf_s.symm, updf_s.trans updf_s.symm, updf_s.trans updf_s.symm, updf_s.trans updf_s.symm⟩
    · have hq2 : q < g.1 := by have : q < g.1 + 1 := hq; omega
      obtain ⟨a1, a2, a3, a4, a5, a6⟩ := r6 q hq2
      rw [updf_n hqE, updf_n hqE, updf_n hqE, updf_n hqE, updf_n hqE, updf_n hqE, a1, a2, a3, a4, a5, a6]
      exact ⟨(updf_n hqE).symm, (updf_n hqE).symm, (updf_n hqE).symm, (updf_n hqE).symm, (updf_n hqE).symm, (updf_n hqE).symm⟩
  · unfold hpI
    rw [rt_up_f h1, rt_up_f (by omega), rt_up_f (by omega), rt_up_f (by omega), rt_up_f (by omega), rt_up_f (by omega), rt_up_f (by omega), rt_up_f (by omega)]
  · unfold hpI
    rw [rt_up_n2 hq, rt_up_n1 (by omega), rt_up_n1 (by omega), rt_up_n1 (by omega), rt_up_n1 (by omega), rt_up_n1 (by omega), rt_up_n1 (by omega), rt_up_n1 (by omega)]
/-- both sides' room, apart and together -/
theorem GRoom_of (h : GRoom I T E) : ∃ g : SgT, g.1 = E ∧ RXr I T (I 2) g ∧ RMr I T (I 2) g ∧ Hist T (I 2) g.2.2.2.1 g.2.2.2.2.2.2.2 E g.2.1 := by
  obtain ⟨r1, r2, r3, r4, r5, r6, ⟨q1, q2, q3, q4⟩, r8, r9, r10⟩ := h
  exact ⟨(E, I 5, I 38, I 39, I 40, I 41, I 42, I 43), rfl, ⟨r3, r5, rfl, rfl, r8, r9⟩, ⟨r4, r6, q1, q4, fun _ _ => ⟨rfl, rfl, rfl, rfl, rfl, rfl⟩⟩, r10⟩
theorem GRoom_mk (h16 : T ≤ 16) (h200 : g.1 ≤ 200) (hx : RXr I T so g) (hm : RMr I T so g) (h35 : I 35 = I 3) (h36 : I 36 = I 4) (hH : Hist T so g.2.2.2.1 g.2.2.2.2.2.2.2 g.1 g.2.1) : GRoom I T g.1 := by
  obtain ⟨r1, r2, r3, r4, r5, r6⟩ := hx
  obtain ⟨s1, s2, s3, s4, s6⟩ := hm
  refine ⟨h16, h200, r1, s1, r2, s2, ⟨by rw [s3, r3], h35, h36, by rw [s4, r4]⟩, by rw [r5, r4], fun k hk => ?_, ?_⟩
  · obtain ⟨a1, a2, a3, a4, a5, a6⟩ := r6 k hk
    obtain ⟨b1, b2, b3, b4, b5, b6⟩ := s6 k hk
    exact ⟨by rw [a1, b1], by rw [a2, b2], by rw [a3, b3], by rw [a4, b4], by rw [a5, b5], by rw [a6, b6]⟩
  · rw [r3, r4]
    exact Hist_congr (fun k hk => ⟨(s6 k hk).2.1, (s6 k hk).2.2.2.2.2⟩) hH
theorem RXr_fr (h : RXr I T so g) (h1 : I2 1 = I 1) (h2 : I2 2 = I 2) (h5 : I2 5 = I 5) (h6 : I2 6 = I 6) : RXr I2 T so g := by unfold RXr at h ⊢; rw [h1, h2, h5, h6]; exact h
theorem RMr_fr (h : RMr I T so g) (h0 : I2 33 0 = I 33 0) (h1 : I2 33 1 = I 33 1) (hc : ∀ c, 34 ≤ c → c ≤ 43 → I2 c = I c) : RMr I2 T so g := by
  unfold RMr at h ⊢
  rw [h0, h1, hc 34 (by omega) (by omega), hc 37 (by omega) (by omega), hc 38 (by omega) (by omega), hc 39 (by omega) (by omega), hc 40 (by omega) (by omega), hc 41 (by omega) (by omega), hc 42 (by omega) (by omega), hc 43 (by omega) (by omega)]
  exact h
theorem GTape_fr (h : GTape I n) (h1 : I2 7 = I 7) (h2 : I2 8 = I 8) (h3 : I2 44 = I 44) (h4 : I2 33 13 = I 33 13) : GTape I2 n := by unfold GTape at h ⊢; rw [h1, h2, h3, h4]; exact h
theorem GMem_fr {S M : Nat} (h : GMem I T S M) (h1 : I2 15 = I 15) (h2 : I2 16 = I 16) (h3 : I2 62 = I 62) (h4 : I2 69 = I 69) (h5 : I2 70 = I 70) (hk : ∀ k, k = 47 ∨ (61 ≤ k ∧ k ≤ 65) → I2 33 k = I 33 k) : GMem I2 T S M := by
  unfold GMem at h ⊢
  rw [h1, h2, h3, h4, h5, hk 61 (by omega), hk 47 (by omega), hk 62 (by omega), hk 63 (by omega), hk 64 (by omega), hk 65 (by omega)]
  exact h
theorem GMem_T {S M T2 : Nat} (h : GMem I T S M) (hT : T ≤ T2) : GMem I T2 S M := by
  obtain ⟨m1, m2, m3, m4, m5, m6, m7, m8⟩ := h
  refine ⟨m1, m2, m3, m4, m5, m6, fun k hk => ?_, m8⟩
  obtain ⟨x, x1, x2⟩ := m7 k hk
  exact ⟨x, by omega, x2⟩
theorem GWord_fr {nw : Nat} {tp : Nat → PhT} {td : Nat → Nat → Nat} {to2 : Nat → Option Nat} {wl : Nat → List Nat} (h : GWord e I L R nw tp td to2 wl) (hc : ∀ c, (9 ≤ c ∧ c ≤ 14) ∨ 71 ≤ c ∨ (47 ≤ c ∧ c ≤ 54) → I2 c = I c) (h22 : I2 33 22 = I 33 22) : GWord e I2 L R nw tp td to2 wl := by
  obtain ⟨w1, w2, w3, w4, w5, w6, w7⟩ := h
  refine ⟨w1, w2, by rw [hc 9 (by omega)]; exact w3, by rw [h22]; exact w4, fun k hk => ?_, fun k hk => ?_, w7⟩
  · obtain ⟨a1, a2, a3, a4, a5, a6, a7, a8, a9, a10, a11, a12⟩ := w5 k hk
    refine ⟨a1, a2, PX_fr a3 (fun c h1 h2 => hc c (by omega)), PM_fr a4 (fun c h1 h2 => hc c (by omega)), a5, a6, a7, ?_, ?_, ?_, ?_, a12⟩
    · rw [hc 14 (by omega)]; exact a8
    · rw [hc 54 (by omega)]; exact a9
    · rw [hc 13 (by omega)]; exact a10
    · rw [hc 53 (by omega)]; exact a11
  · rw [hc 11 (by omega), hc 10 (by omega)]; exact w6 k hk
theorem GLast_fr {nw : Nat} {ln : Option Nat} (h : GLast I nw ln) (h1 : I2 15 9 = I 15 9) (h2 : I2 33 46 = I 33 46) : GLast I2 nw ln := by unfold GLast at h ⊢; rw [h1, h2]; exact h
theorem GHand_fr {nw T2 : Nat} {ln : Option Nat} (h : GHand I L a T nw ln) (hc : ∀ c, (17 ≤ c ∧ c ≤ 26) ∨ (47 ≤ c ∧ c ≤ 52) ∨ c = 55 → I2 c = I c) (h15 : I2 15 9 = I 15 9) (hk : ∀ k, k = 31 ∨ k = 33 ∨ k = 35 ∨ k = 46 → I2 33 k = I 33 k) (hH : I2 1 7 = ff (fun i => I2 5 i = 17) 0 T2) : GHand I2 L a T2 nw ln := by
  rcases h with ⟨h1, h2⟩ | ⟨q, NR, dg, fm, dn, ⟨⟨y1, y2, y3, y4, y5, y6, y7, y8, y9, y10, y11, y12⟩, ⟨z1, z2, z3, z4, z5, z6, z7⟩, b3, b4, b5, b6⟩, h2, h3, h4⟩
  · exact Or.inl ⟨by rw [hc 17 (by omega)]; exact h1, by rw [hk 31 (by omega)]; exact h2⟩
  · refine Or.inr ⟨q, NR, dg, fm, dn, ⟨⟨PX_fr y1 (fun c h1 h2 => hc c (by omega)), by rw [hc 23 (by omega)]; exact y2, y3, by rw [hc 23 (by omega)]; exact y4, by rw [hc a (by omega)]; exact y5, by rw [h15]; exact y6, y7, y8, by rw [hc 17 (by omega)]; exact y9, by rw [hc 17 (by omega)]; exact y10, y11, hH⟩, ⟨PM_fr z1 (fun c h1 h2 => hc c (by omega)), by rw [hk 35 (by omega)]; exact z2, z3, by rw [hc 55 (by omega)]; exact z4, by rw [hk 46 (by omega)]; exact z5, z6, z7⟩, by rw [hk 33 (by omega)]; exact b3, b4, by rw [hc 17 (by omega)]; exact b5, by rw [hk 31 (by omega)]; exact b6⟩, by rw [hc 17 (by omega)]; exact h2, h3, fun h6 => ?_⟩
    obtain ⟨w, w1, w2, w3, w4⟩ := h4 h6
    exact ⟨w, w1, by rw [hc 17 (by omega)]; exact w2, by rw [hc 26 (by omega)]; exact w3, w4⟩
theorem INVx_fr (h : INVx e I L R a b) (hF : Fxm I I2) : INVx e I2 L R a b := by
  obtain ⟨hR, hab, T, E, n, S, M, nw, tp, td, to2, wl, ln, g1, g2, g3, g4, g5, g6⟩ := h
  obtain ⟨f1, f2⟩ := hF
  obtain ⟨g, rfl, gx, gm, gh⟩ := GRoom_of g1
  have hx2 := RXr_fr (I2 := I2) gx (f1 1 (by omega)) (f1 2 (by omega)) (f1 5 (by omega)) (f1 6 (by omega))
  have hm2 := RMr_fr (I2 := I2) gm (f2 0 (by omega)) (f2 1 (by omega)) (fun c h1 h2 => f1 c (by omega))
  have hG : GRoom I2 T g.1 := GRoom_mk g1.1 g1.2.1 hx2 hm2 (by rw [f1 35 (by omega), f1 3 (by omega)]; exact g1.2.2.2.2.2.2.1.2.1) (by rw [f1 36 (by omega), f1 4 (by omega)]; exact g1.2.2.2.2.2.2.1.2.2.1) gh
  exact ⟨hR, hab, T, g.1, n, S, M, nw, tp, td, to2, wl, ln, hG, GTape_fr g2 (f1 7 (by omega)) (f1 8 (by omega)) (f1 44 (by omega)) (f2 13 (by omega)), GMem_fr g3 (f1 15 (by omega)) (f1 16 (by omega)) (f1 62 (by omega)) (f1 69 (by omega)) (f1 70 (by omega)) (fun k hk => f2 k (by omega)), GWord_fr g4 (fun c hc => f1 c (by omega)) (f2 22 (by omega)), GLast_fr g5 (by rw [f1 15 (by omega)]) (f2 46 (by omega)), GHand_fr g6 (fun c hc => f1 c (by omega)) (by rw [f1 15 (by omega)]) (fun k hk => f2 k (by omega)) hG.2.2.2.2.2.2.2.1⟩
end P43

/-- events, back to the first: each can be undone -/
def Hist (T : Nat) (so th_ fr : Nat → Int32) : Nat → (Nat → Int32) → Prop
  | 0, m => RoomOK T so m
  | E + 1, m => RoomOK T so m ∧ ∃ j, j < T ∧ th_ E = nI j ∧ (fr E = 17 ∨ ∀ i, i < T → updf m j (fr E) i ≠ 17) ∧ Hist T so th_ fr E (updf m j (fr E))
def GRoom (I : Nat → Nat → Int32) (T E : Nat) : Prop :=
  T ≤ 16 ∧ E ≤ 200 ∧ I 1 5 = nI T ∧ I 33 0 = nI T ∧ I 1 6 = nI E ∧ I 33 1 = nI E ∧ (I 34 = I 2 ∧ I 35 = I 3 ∧ I 36 = I 4 ∧ I 37 = I 5) ∧ I 1 7 = ff (fun i => I 5 i = 17) 0 T ∧
  (∀ k, k < E → I 6 (6 * k) = I 38 k ∧ I 6 (6 * k + 1) = I 39 k ∧ I 6 (6 * k + 2) = I 40 k ∧ I 6 (6 * k + 3) = I 41 k ∧ I 6 (6 * k + 4) = I 42 k ∧ I 6 (6 * k + 5) = I 43 k) ∧ Hist T (I 2) (I 39) (I 43) E (I 5)
def GTape (I : Nat → Nat → Int32) (n : Nat) : Prop :=
  n ≤ 200 ∧ I 7 1 = nI n ∧ I 33 13 = nI n ∧ ∀ k, k < n → I 44 k = (I 8 k).toInt8.toInt32 ∧ ∃ v, v < 256 ∧ I 8 k = nI v
def GMem (I : Nat → Nat → Int32) (T S M : Nat) : Prop :=
  S ≤ 60 ∧ M ≤ 7 * S ∧ I 15 8 = nI S ∧ I 33 61 = nI S ∧ I 15 1 = nI M ∧ I 33 47 = nI M ∧ (∀ k, k < M → ∃ x, x < T ∧ I 16 k = nI x ∧ I 62 k = nI x) ∧
  (∃ ST, ST ≤ 20 ∧ I 15 4 = nI ST ∧ I 33 62 = nI ST ∧ (∀ x, x < 16 → bt (I 15 2) x = stm (I 69) (I 70) x true ST ∧ bt (I 15 3) x = stm (I 69) (I 70) x false ST) ∧ ∀ k, k < ST → rt_bo (I 70 k) = true) ∧
  (∃ JD OW, JD ≤ 60 ∧ OW ≤ JD ∧ I 15 5 = nI JD ∧ I 33 63 = nI JD ∧ I 15 6 = nI OW ∧ I 33 64 = nI OW ∧ (OW = 0 → I 15 7 = -1) ∧ (0 < OW → ∃ f, f < 60 ∧ I 15 7 = nI f ∧ I 33 65 = nI f))
/-- the key of a word: its letters 1 to 26, by 27 -/
def kyN (w : List Nat) : Nat := w.foldl (fun k c => k * 27 + (c - 96)) 0
/-- a word of two to ten small letters -/
def okW (w : List Nat) : Prop := 2 ≤ w.length ∧ w.length ≤ 10 ∧ ∀ c, c ∈ w → 97 ≤ c ∧ c ≤ 122
def GWord (e : Nat) (I : Nat → Nat → Int32) (L : Nat → Nat → Int64) (R : Nat → Nat → Option Nat) (nw : Nat) (tp : Nat → PhT) (td : Nat → Nat → Nat) (to_ : Nat → Option Nat) (wl : Nat → List Nat) : Prop :=
  e = 5 * nw ∧ nw ≤ 8 ∧ I 9 5 = nI nw ∧ I 33 22 = nI nw ∧
  (∀ k, k < nw → R 12 k = some (71 + 5 * k) ∧ PH (71 + e) R (71 + 5 * k) ∧ PX I (71 + 5 * k) (tp k) ∧ PM I (1 + k) (tp k) ∧ wfq k (tp k) ∧ wfd (tp k) (td k) ∧ won k (to_ k) ∧ I 14 k = oX (to_ k) ∧ I 54 (1 + k) = oM (to_ k) ∧ DX (I 13 k) (pO (tp k)) (td k) ∧ DM (I 53 (1 + k)) (pO (tp k)) (td k) ∧ 0 < pP (tp k)) ∧
  (∀ k, k < nw → okW (wl k) ∧ I 11 k = nI (wl k).length ∧ (∀ i c, (wl k)[i]? = some c → I 10 (10 * k + i) = nI c) ∧ L 46 k = Int64.ofNat (kyN (wl k))) ∧ ∀ k, k < 29 → L 45 k = in_W.getD k 0
def GLast (I : Nat → Nat → Int32) (nw : Nat) (ln : Option Nat) : Prop := I 15 9 = oX ln ∧ I 33 46 = oM ln ∧ won nw ln
def GHand (I : Nat → Nat → Int32) (L : Nat → Nat → Int64) (a T nw : Nat) (ln : Option Nat) : Prop :=
  (I 17 8 = 0 ∧ I 33 31 = 0) ∨ ∃ q NR dg fm dn, HB I a T nw ln q NR dg fm dn ∧ I 17 6 = b01 (decide (fm = 8)) ∧ 0 < NR ∧ (fm = 6 → ∃ w : List Nat, okW w ∧ I 17 3 = nI w.length ∧ (∀ i c, w[i]? = some c → I 26 i = nI c) ∧ L 33 38 = Int64.ofNat (kyN w))
/-- WHAT HOLDS BETWEEN CALLS -/
def INVx (e : Nat) (I : Nat → Nat → Int32) (L : Nat → Nat → Int64) (R : Nat → Nat → Option Nat) (a b : Nat) : Prop :=
  RG R a b ∧ ((a = 24 ∧ b = 25) ∨ (a = 25 ∧ b = 24)) ∧ ∃ T E n S M nw tp td to_ wl ln, GRoom I T E ∧ GTape I n ∧ GMem I T S M ∧ GWord e I L R nw tp td to_ wl ∧ GLast I nw ln ∧ GHand I L a T nw ln
def INV (h : rt_H) : Prop := ∃ e I L R a b, h = (71 + e, I, L, R) ∧ INVx e I L R a b
section P42
variable {e : Nat} {I I1 I2 : Nat → Nat → Int32} {L : Nat → Nat → Int64} {R : Nat → Nat → Option Nat} {a b T E j n k p i nw s r S M : Nat} {x w g : Int32} {q : PhT} {tp : Nat → PhT} {td dg : Nat → Nat → Nat} {to_ : Nat → Option Nat} {it th one ln : Option Nat} {wl : Nat → List Nat} {so m th_ fr th2 fr2 : Nat → Int32}
theorem INV_sz (h : rt_H) (hI : INV h) : 71 ≤ h.1 ∧ h.1 ≤ 111 := by
  obtain ⟨e, I, L, R, a, b, rfl, -, -, T, E, n, S, M, nw, tp, td, to_, wl, ln, -, -, -, hW, -⟩ := hI
  have h1 := hW.1
  have h2 := hW.2.1
  dsimp only
  omega
theorem Hist_ok : ∀ {E : Nat} {m : Nat → Int32}, Hist T so th_ fr E m → RoomOK T so m := by
  intro E m h
  cases E with
  | zero => exact h
  | succ E => exact h.1
theorem Hist_congr : ∀ {E : Nat} {m : Nat → Int32}, (∀ k, k < E → th2 k = th_ k ∧ fr2 k = fr k) → Hist T so th_ fr E m → Hist T so th2 fr2 E m := by
  intro E
  induction E with
  | zero => intro m _ h; exact h
  | succ E ih =>
    intro m hc h
    obtain ⟨h1, j, h2, h3, h4, h5⟩ := h
    obtain ⟨c1, c2⟩ := hc E (by omega)
    refine ⟨h1, j, h2, by rw [c1]; exact h3, by rw [c2]; exact h4, ?_⟩
    rw [c2]
    exact ih (fun k hk => hc k (by omega)) h5
theorem updf_back : updf (updf m j x) j (m j) = m := by
  funext i
  by_cases h : i = j
  · subst h; rw [updf_s]
  · rw [updf_n h, updf_n h]
theorem Hist_mv {to2 : Int32} (h16 : T ≤ 16) (h : Hist T so th_ fr E m) (ha : alw T so m x w j to2) : Hist T so (updf th_ E (nI j)) (updf fr E (m j)) (E + 1) (updf m j to2) := by
  refine ⟨room_mv ha h16 (Hist_ok h), j, ha.1, updf_s, ?_, ?_⟩
  · rw [updf_s, updf_back]
    rcases ha.2 with ⟨-, -, -, g, -⟩ | ⟨g, -⟩
    · exact Or.inr g
    · exact Or.inl g
  · rw [updf_s, updf_back]
    exact Hist_congr (fun k hk => ⟨updf_n (by omega), updf_n (by omega)⟩) h
theorem RoomOK_add (h16 : T < 16) (h : RoomOK T so m) : RoomOK (T + 1) (updf so T x) (updf m T 16) := by
  obtain ⟨o1, o2, o3, o4, o5, ord, r1, r2, r3⟩ := h
  have d : ¬ (16 : Int32) = 17 := by decide
  have m16 : ∀ y, y < T + 1 → ¬ (16 : Int32) = nI y := fun y hy h => n16 (by omega) h.symm
  have hT : ∀ i, i < T → ¬ m i = nI T := by
    intro i hi hm
    rcases o1 i hi with g | g | ⟨z, z1, z2, -⟩
    · rw [g] at hm; exact m16 T (by omega) hm
    · rw [g] at hm; exact n17 (by omega) hm.symm
    · rw [z2, q_eq (by omega) (by omega)] at hm; omega
  refine ⟨fun i hi => ?_, fun i l hi hl h1 h2 => ?_, fun i l y hi hl hy hs h1 h2 => ?_, fun i hi h1 => ?_, fun i hi hs => ?_, fun i => if i = T then T else ord i, fun i hi => ?_, fun i l hi hl h1 => ?_, fun i b hi hb h1 => ?_⟩
  · by_cases e1 : i = T
    · subst e1; exact Or.inl updf_s
    · rw [updf_n e1]
      rcases o1 i (by omega) with g | g | ⟨z, z1, z2, z3⟩
      · exact Or.inl g
      · exact Or.inr (Or.inl g)
      · exact Or.inr (Or.inr ⟨z, by omega, z2, by rw [updf_n (by omega)]; exact z3⟩)
  · by_cases e1 : i = T
    · subst e1; rw [updf_s] at h1; exact absurd h1 d
    · by_cases e2 : l = T
      · subst e2; rw [updf_s] at h2; exact absurd h2 d
      · rw [updf_n e1] at h1; rw [updf_n e2] at h2
        exact o2 i l (by omega) (by omega) h1 h2
  · by_cases e1 : i = T
    · subst e1; rw [updf_s] at h1; exact absurd h1 (m16 y hy)
    · by_cases e2 : l = T
      · subst e2; rw [updf_s] at h2; exact absurd h2 (m16 y hy)
      · rw [updf_n e1] at h1; rw [updf_n e2] at h2
        by_cases e3 : y = T
        · subst e3; exact absurd h1 (hT i (by omega))
        · rw [updf_n e3] at hs
          exact o3 i l y (by omega) (by omega) (by omega) hs h1 h2
  · by_cases e1 : i = T
    · subst e1; rw [updf_s] at h1; exact absurd h1 d
    · rw [updf_n e1] at h1
      obtain ⟨g1, g2⟩ := o4 i (by omega) h1
      refine ⟨by rw [updf_n e1]; exact g1, fun l hl => ?_⟩
      by_cases e2 : l = T
      · subst e2; rw [updf_s]; exact m16 i hi
      · rw [updf_n e2]; exact g2 l (by omega)
  · by_cases e1 : i = T
    · subst e1; exact updf_s
    · rw [updf_n e1] at hs ⊢
      exact o5 i (by omega) hs
  · dsimp only
    by_cases e1 : i = T
    · rw [if_pos e1]; omega
    · rw [if_neg e1]; have := r1 i (by omega); omega
  · dsimp only at h1
    by_cases e1 : i = T
    · by_cases e2 : l = T
      · rw [e1, e2]
      · rw [if_pos e1, if_neg e2] at h1; have := r1 l (by omega); omega
    · by_cases e2 : l = T
      · rw [if_neg e1, if_pos e2] at h1; have := r1 i (by omega); omega
      · rw [if_neg e1, if_neg e2] at h1; exact r2 i l (by omega) (by omega) h1
  · dsimp only
    by_cases e1 : i = T
    · subst e1; rw [updf_s] at h1; exact absurd h1 (m16 b hb)
    · rw [updf_n e1] at h1
      by_cases e2 : b = T
      · subst e2; exact absurd h1 (hT i (by omega))
      · rw [if_neg e1, if_neg e2]; exact r3 i b (by omega) (by omega) h1
theorem Hist_add (h16 : T < 16) : ∀ {E : Nat} {m : Nat → Int32}, Hist T so th_ fr E m → Hist (T + 1) (updf so T x) th_ fr E (updf m T 16) := by
  intro E
  induction E with
  | zero => intro m h; exact RoomOK_add h16 h
  | succ E ih =>
    intro m h
    obtain ⟨h1, j, h2, h3, h4, h5⟩ := h
    have hcm : updf (updf m T 16) j (fr E) = updf (updf m j (fr E)) T 16 := by
      funext i
      by_cases e1 : i = j
      · subst e1; rw [updf_s, updf_n (by omega), updf_s]
      · rw [updf_n e1]
        by_cases e2 : i = T
        · subst e2; rw [updf_s, updf_s]
        · rw [updf_n e2, updf_n e2, updf_n e1]
    refine ⟨RoomOK_add h16 h1, j, by omega, h3, ?_, by rw [hcm]; exact ih h5⟩
    rcases h4 with h4 | h4
    · exact Or.inl h4
    · refine Or.inr (fun i hi => ?_)
      rw [hcm]
      by_cases e2 : i = T
      · subst e2; rw [updf_s]; decide
      · rw [updf_n e2]; exact h4 i (by omega)
theorem INV_BB (hR : RG R a b) (g1 : GRoom I T E) (g3 : GMem I T S M) (g4 : GWord e I L R nw tp td to_ wl) : ∃ it th, BB e I R a b T nw tp td to_ it th := by
  obtain ⟨r1, r2, r3, r4, r5, r6, ⟨q1, q2, q3, q4⟩, r8, r9, r10⟩ := g1
  obtain ⟨m1, m2, m3, m4, m5, m6, m7, -⟩ := g3
  obtain ⟨w1, w2, w3, w4, w5, -⟩ := g4
  have hO := Hist_ok r10
  obtain ⟨it, hit⟩ : ∃ it : Option Nat, (M = 0 ∧ it = none) ∨ ∃ x, 0 < M ∧ it = some x ∧ I 16 (M - 1) = nI x ∧ I 62 (M - 1) = nI x ∧ x < T := by
    by_cases h : M = 0
    · exact ⟨none, Or.inl ⟨h, rfl⟩⟩
    · obtain ⟨x, x1, x2, x3⟩ := m7 (M - 1) (by omega)
      exact ⟨some x, Or.inr ⟨x, by omega, rfl, x2, x3, x1⟩⟩
  obtain ⟨th, hth⟩ : ∃ th : Option Nat, (E = 0 ∧ th = none) ∨ ∃ x, 0 < E ∧ th = some x ∧ I 39 (E - 1) = nI x ∧ x < T := by
    cases E with
    | zero => exact ⟨none, Or.inl ⟨rfl, rfl⟩⟩
    | succ E =>
      obtain ⟨-, j, j1, j2, -⟩ := r10
      exact ⟨some j, Or.inr ⟨j, by omega, rfl, j2, j1⟩⟩
  refine ⟨it, th, ⟨hR, r3, r1, hO, w2, w3, fun k hk => ?_, ⟨M, m5, by omega, ?_⟩, ⟨E, r5, r2, ?_⟩⟩, ⟨hR, r4, r1, by rw [q1, q4]; exact hO, w2, w4, fun k hk => ?_, ⟨M, m6, by omega, ?_⟩, ⟨E, r6, r2, ?_⟩⟩, q1, q2, q3, q4⟩
  · obtain ⟨a1, a2, a3, a4, a5, a6, a7, a8, a9, a10, a11, a12⟩ := w5 k hk
    exact ⟨a1, a2, a3, a5, a6, a7, a8, a10, a12⟩
  · rcases hit with h | ⟨x, x1, x2, x3, x4, x5⟩
    · exact Or.inl h
    · exact Or.inr ⟨x, x1, x2, x3, x5⟩
  · rcases hth with h | ⟨x, x1, x2, x3, x4⟩
    · exact Or.inl h
    · exact Or.inr ⟨x, x1, x2, by rw [(r9 (E - 1) (by omega)).2.1]; exact x3, x4⟩
  · obtain ⟨a1, a2, a3, a4, a5, a6, a7, a8, a9, a10, a11, a12⟩ := w5 k hk
    exact ⟨a4, a5, a6, a7, a9, a11, a12⟩
  · rcases hit with h | ⟨x, x1, x2, x3, x4, x5⟩
    · exact Or.inl h
    · exact Or.inr ⟨x, x1, x2, x4, x5⟩
  · exact hth
end P42

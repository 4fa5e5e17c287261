def updf (f : Nat → Int32) (j : Nat) (v : Int32) : Nat → Int32 := fun i => if i = j then v else f i
theorem updf_s {f : Nat → Int32} {j : Nat} {v : Int32} : updf f j v j = v := if_pos rfl
theorem updf_n {f : Nat → Int32} {i j : Nat} {v : Int32} (h : i ≠ j) : updf f j v i = f i := if_neg h
theorem updf_up {I : Nat → Nat → Int32} {c j : Nat} {v : Int32} : rt_up I c j v c = updf (I c) j v := by unfold rt_up; rw [if_pos rfl]; rfl
/-- act (k, x) may be done: thing j comes to to_ -/
def alw (T : Nat) (so at_ : Nat → Int32) (k x : Int32) (j : Nat) (to_ : Int32) : Prop :=
  j < T ∧ ((k = 0 ∧ x = nI j ∧ to_ = 17 ∧ (∀ i, i < T → at_ i ≠ 17) ∧ so j ≠ 2 ∧ ∀ i, i < T → at_ i ≠ nI j) ∨
  (at_ j = 17 ∧ ((k = 1 ∧ ∃ y, y < T ∧ x = nI y ∧ to_ = nI y ∧ y ≠ j ∧ so y = 0 ∧ ∀ i, i < T → at_ i ≠ nI y) ∨ (k = 2 ∧ x = -1 ∧ to_ = 16) ∨ (k = 3 ∧ ∃ y, y < T ∧ x = nI y ∧ to_ = nI y ∧ so y = 2))))
section P35
variable {T j : Nat} {so at_ : Nat → Int32} {k x to_ : Int32}
theorem n16 {y : Nat} (h : y < 16) : ¬ nI y = 16 := by
  have e : (16 : Int32) = nI 16 := rfl
  rw [e, q_eq (by omega) (by omega)]
  omega
theorem n17 {y : Nat} (h : y < 16) : ¬ nI y = 17 := by
  have e : (17 : Int32) = nI 17 := rfl
  rw [e, q_eq (by omega) (by omega)]
  omega
theorem alw_to (h : alw T so at_ k x j to_) (h16 : T ≤ 16) (hO : RoomOK T so at_) : so j ≠ 2 ∧ (∀ i, i < T → at_ i ≠ nI j) ∧ (to_ = 16 ∨ to_ = 17 ∨ ∃ y, y < T ∧ y ≠ j ∧ to_ = nI y ∧ (so y = 0 ∨ so y = 2)) := by
  obtain ⟨hj, h | ⟨ha, h⟩⟩ := h
  · obtain ⟨-, -, h1, -, h2, h3⟩ := h
    exact ⟨h2, h3, Or.inr (Or.inl h1)⟩
  · obtain ⟨g1, g2⟩ := hO.2.2.2.1 j hj ha
    refine ⟨g1, g2, ?_⟩
    rcases h with ⟨-, y, y1, -, y2, y3, y4, -⟩ | ⟨-, -, h⟩ | ⟨-, y, y1, -, y2, y3⟩
    · exact Or.inr (Or.inr ⟨y, y1, y3, y2, Or.inl y4⟩)
    · exact Or.inl h
    · refine Or.inr (Or.inr ⟨y, y1, fun e => ?_, y2, Or.inr y3⟩)
      subst e
      exact g1 y3
theorem room_mv (h : alw T so at_ k x j to_) (h16 : T ≤ 16) (hO : RoomOK T so at_) : RoomOK T so (updf at_ j to_) := by
  obtain ⟨s1, s2, s3⟩ := alw_to h h16 hO
  obtain ⟨hj, hc⟩ := h
  obtain ⟨o1, o2, o3, o4, o5, ord, r1, r2, r3⟩ := hO
  have m16 : ∀ y, y < T → ¬ (16 : Int32) = nI y := fun y hy h => n16 (by omega) h.symm
  have m17 : ∀ y, y < T → ¬ (17 : Int32) = nI y := fun y hy h => n17 (by omega) h.symm
  have d1 : ¬ (16 : Int32) = 17 := by decide
  refine ⟨fun i hi => ?_, fun i l hi hl h1 h2 => ?_, fun i l y hi hl hy hs h1 h2 => ?_, fun i hi h1 => ?_, fun i hi hs => ?_, fun i => if i = j then T - 1 else if ord j < ord i then ord i - 1 else ord i, fun i hi => ?_, fun i l hi hl h1 => ?_, fun i b hi hb h1 => ?_⟩
  · by_cases e : i = j
    · subst e
      rw [updf_s]
      rcases s3 with h | h | ⟨y, y1, -, y2, y3⟩
      · exact Or.inl h
      · exact Or.inr (Or.inl h)
      · exact Or.inr (Or.inr ⟨y, y1, y2, y3⟩)
    · rw [updf_n e]
      exact o1 i hi
  · by_cases e1 : i = j
    · by_cases e2 : l = j
      · rw [e1, e2]
      · rw [updf_n e2] at h2
        subst e1
        rw [updf_s] at h1
        rcases hc with ⟨-, -, -, g, -⟩ | ⟨ha, g⟩
        · exact absurd h2 (g l hl)
        · exact o2 i l hj hl ha h2
    · rw [updf_n e1] at h1
      by_cases e2 : l = j
      · subst e2
        rcases hc with ⟨-, -, -, g, -⟩ | ⟨ha, g⟩
        · exact absurd h1 (g i hi)
        · exact o2 i l hi hj h1 ha
      · rw [updf_n e2] at h2
        exact o2 i l hi hl h1 h2
  · by_cases e1 : i = j
    · by_cases e2 : l = j
      · rw [e1, e2]
      · rw [updf_n e2] at h2
        subst e1
        rw [updf_s] at h1
        rcases hc with ⟨-, -, g, -⟩ | ⟨ha, ⟨-, z, z1, -, z2, -, -, z3⟩ | ⟨-, -, g⟩ | ⟨-, z, z1, -, z2, z3⟩⟩
        · rw [g] at h1; exact absurd h1 (m17 y hy)
        · rw [z2, q_eq (by omega) (by omega)] at h1
          subst h1
          exact absurd h2 (z3 l hl)
        · rw [g] at h1; exact absurd h1 (m16 y hy)
        · rw [z2, q_eq (by omega) (by omega)] at h1
          subst h1
          rw [z3] at hs
          exact absurd hs (by decide)
    · rw [updf_n e1] at h1
      by_cases e2 : l = j
      · subst e2
        rw [updf_s] at h2
        rcases hc with ⟨-, -, g, -⟩ | ⟨ha, ⟨-, z, z1, -, z2, -, -, z3⟩ | ⟨-, -, g⟩ | ⟨-, z, z1, -, z2, z3⟩⟩
        · rw [g] at h2; exact absurd h2 (m17 y hy)
        · rw [z2, q_eq (by omega) (by omega)] at h2
          subst h2
          exact absurd h1 (z3 i hi)
        · rw [g] at h2; exact absurd h2 (m16 y hy)
        · rw [z2, q_eq (by omega) (by omega)] at h2
          subst h2
          rw [z3] at hs
          exact absurd hs (by decide)
      · rw [updf_n e2] at h2
        exact o3 i l y hi hl hy hs h1 h2
  · by_cases e1 : i = j
    · subst e1
      refine ⟨s1, fun l hl => ?_⟩
      by_cases e2 : l = i
      · subst e2
        rw [h1]
        exact m17 l hl
      · rw [updf_n e2]
        exact s2 l hl
    · rw [updf_n e1] at h1
      rcases hc with ⟨-, -, -, g, -⟩ | ⟨ha, g⟩
      · exact absurd h1 (g i hi)
      · exact absurd (o2 i j hi hj h1 ha) e1
  · by_cases e1 : i = j
    · subst e1
      exact absurd hs s1
    · rw [updf_n e1]
      exact o5 i hi hs
  · have := r1 i hi
    have := r1 j hj
    dsimp only
    by_cases e1 : i = j
    · rw [if_pos e1]; omega
    · rw [if_neg e1]
      split <;> omega
  · have a1 := r1 i hi
    have a2 := r1 l hl
    have a3 := r1 j hj
    have b1 : i ≠ j → ord i ≠ ord j := fun e q => e (r2 i j hi hj q)
    have b2 : l ≠ j → ord l ≠ ord j := fun e q => e (r2 l j hl hj q)
    dsimp only at h1
    by_cases e1 : i = j
    · by_cases e2 : l = j
      · rw [e1, e2]
      · rw [if_pos e1, if_neg e2] at h1
        have := b2 e2
        split at h1 <;> omega
    · have c1 := b1 e1
      by_cases e2 : l = j
      · rw [if_neg e1, if_pos e2] at h1
        split at h1 <;> omega
      · have c2 := b2 e2
        rw [if_neg e1, if_neg e2] at h1
        apply r2 i l hi hl
        split at h1 <;> split at h1 <;> omega
  · have a1 := r1 i hi
    have a2 := r1 b hb
    have a3 := r1 j hj
    dsimp only
    by_cases e1 : i = j
    · subst e1
      rw [updf_s] at h1
      have hbi : b ≠ i := by
        rcases s3 with g | g | ⟨y, y1, y2, y3, -⟩
        · rw [g] at h1; exact absurd h1 (m16 b hb)
        · rw [g] at h1; exact absurd h1 (m17 b hb)
        · rw [y3, q_eq (by omega) (by omega)] at h1
          omega
      have c0 : ord b ≠ ord i := fun q => hbi (r2 b i hb hj q)
      rw [if_neg hbi, if_pos rfl]
      split <;> omega
    · rw [updf_n e1] at h1
      have hbj : b ≠ j := fun e => by subst e; exact s2 i hi h1
      have := r3 i b hi hb h1
      have c1 : ord i ≠ ord j := fun q => e1 (r2 i j hi hj q)
      have c2 : ord b ≠ ord j := fun q => hbj (r2 b j hb hj q)
      rw [if_neg hbj, if_neg e1]
      split <;> split <;> omega
/-- what is in the hand -/
theorem held_17 (hO : RoomOK T so at_) (hj : j < T) (h : at_ j = 17) : ff (fun i => at_ i = 17) 0 T = nI j := by
  rcases ff_cases (fun i => at_ i = 17) T 0 with ⟨-, g⟩ | ⟨y, -, g2, g3, g4, -⟩
  · exact absurd h (g j (by omega) (by omega))
  · rw [g4, hO.2.1 y j (by omega) hj g3 h]
theorem held_no (h : ∀ i, i < T → at_ i ≠ 17) : ff (fun i => at_ i = 17) 0 T = -1 := ff_none (fun i _ hi => h i (by omega))
/-- nothing stands there -/
theorem otp_no {y : Nat} (h : ∀ i, i < T → at_ i ≠ nI y) : otp T so at_ y = -1 := by
  unfold otp
  split
  · exact ff_none (fun i _ hi => h i (by omega))
  · rfl
theorem otp_no' {y : Nat} (hO : RoomOK T so at_) (h16 : T ≤ 16) (hy : y < T) (hs : so y ≠ 2) (h : otp T so at_ y = -1) : ∀ i, i < T → at_ i ≠ nI y := by
  intro i hi ha
  rw [← otp_eq hO h16 hy, if_neg hs] at h
  rcases ff_cases (fun i => at_ i = nI y) T 0 with ⟨-, g⟩ | ⟨z, -, g2, g3, g4, -⟩
  · exact g i (by omega) (by omega) ha
  · rw [g4] at h
    exact absurd h (by rw [q_e1 (by omega)]; exact id)
/-- what the class says of an act that may be done -/
theorem alw_cX (h : alw T so at_ k x j to_) (h16 : T ≤ 16) (hO : RoomOK T so at_) : (if k = 0 then x else ff (fun i => at_ i = 17) 0 T) = nI j ∧ to_ = (if k = 0 then 17 else if k = 2 then 16 else x) ∧ ((x = -1 ∧ cXo (ff (fun i => at_ i = 17) 0 T) k x = 1) ∨ ∃ y, y < T ∧ x = nI y ∧ cXi (ff (fun i => at_ i = 17) 0 T) T so at_ k y = 1) := by
  obtain ⟨hj, ⟨rfl, rfl, rfl, h1, h2, h3⟩ | ⟨ha, h⟩⟩ := h
  · refine ⟨by simp, by simp, Or.inr ⟨j, hj, rfl, ?_⟩⟩
    have ho := otp_no (so := so) h3
    unfold otp at ho
    rw [held_no h1]
    unfold cXi
    rw [if_pos rfl, if_pos rfl, if_neg h2, ho, if_pos rfl]
  · have hh := held_17 hO hj ha
    have hne : ¬ nI j = -1 := by rw [q_e1 (by omega)]; exact id
    rw [hh]
    rcases h with ⟨rfl, y, y1, rfl, rfl, y3, y4, y5⟩ | ⟨rfl, rfl, rfl⟩ | ⟨rfl, y, y1, rfl, rfl, y3⟩
    · refine ⟨by simp, by simp, Or.inr ⟨y, y1, rfl, ?_⟩⟩
      have ho := otp_no (so := so) y5
      unfold otp at ho
      have hjy : ¬ nI j = nI y := by rw [q_eq (by omega) (by omega)]; omega
      unfold cXi
      rw [ho]
      simp [hne, hjy, y4]
    · exact ⟨by simp, by simp, Or.inl ⟨rfl, by unfold cXo; simp [hne]⟩⟩
    · refine ⟨by simp, by simp, Or.inr ⟨y, y1, rfl, ?_⟩⟩
      unfold cXi
      simp [hne, y3]
/-- and the other way round -/
theorem cXi_alw {y : Nat} (h16 : T ≤ 16) (hO : RoomOK T so at_) (hy : y < T) (h : cXi (ff (fun i => at_ i = 17) 0 T) T so at_ k y = 1) : ∃ j to_, alw T so at_ k (nI y) j to_ := by
  unfold cXi at h
  have d : ¬ (0 : Int32) = 1 := by decide
  rcases ff_cases (fun i => at_ i = 17) T 0 with ⟨g, g2⟩ | ⟨j, -, g2, g3, g4, -⟩
  · rw [g] at h
    by_cases h0 : k = 0
    · subst h0
      rw [if_pos rfl, if_pos rfl] at h
      by_cases hs : so y = 2
      · rw [if_pos hs] at h; exact absurd h d
      · rw [if_neg hs] at h
        by_cases ho : (if so y = 0 then ff (fun i => at_ i = nI y) 0 T else -1) = -1
        · exact ⟨y, 17, hy, Or.inl ⟨rfl, rfl, rfl, fun i hi => g2 i (by omega) (by omega), hs, otp_no' hO h16 hy hs ho⟩⟩
        · rw [if_neg ho] at h; exact absurd h d
    · rw [if_neg h0] at h
      simp at h
  · have hne : ¬ nI j = -1 := by rw [q_e1 (by omega)]; exact id
    rw [g4] at h
    by_cases h0 : k = 0
    · subst h0
      rw [if_pos rfl, if_neg hne] at h
      exact absurd h d
    · rw [if_neg h0] at h
      by_cases h1 : k = 1
      · subst h1
        rw [if_pos rfl, if_neg hne] at h
        by_cases hjy : nI j = nI y
        · rw [if_pos hjy] at h; exact absurd h d
        · rw [if_neg hjy] at h
          by_cases hs : so y = 0
          · have ho : (if so y = 0 then ff (fun i => at_ i = nI y) 0 T else -1) = -1 := by
              by_cases ho : (if so y = 0 then ff (fun i => at_ i = nI y) 0 T else -1) = -1
              · exact ho
              · rw [if_neg ho] at h; simp at h
            exact ⟨j, nI y, by omega, Or.inr ⟨g3, Or.inl ⟨rfl, y, hy, rfl, rfl, fun e => hjy (by rw [e]), hs, otp_no' hO h16 hy (by rw [hs]; decide) ho⟩⟩⟩
          · simp [hs] at h
      · rw [if_neg h1] at h
        by_cases h2 : k = 2
        · rw [if_pos h2, if_neg hne] at h; exact absurd h d
        · rw [if_neg h2] at h
          by_cases h3 : k = 3
          · subst h3
            rw [if_pos rfl, if_neg hne] at h
            by_cases hs : so y = 2
            · exact ⟨j, nI y, by omega, Or.inr ⟨g3, Or.inr (Or.inr ⟨rfl, y, hy, rfl, rfl, hs⟩)⟩⟩
            · simp [hs] at h
          · rw [if_neg h3] at h
            exact absurd h d
theorem cXo_alw (h : cXo (ff (fun i => at_ i = 17) 0 T) k x = 1) : ∃ j to_, alw T so at_ k x j to_ := by
  unfold cXo at h
  have d : ¬ (0 : Int32) = 1 := by decide
  rcases ff_cases (fun i => at_ i = 17) T 0 with ⟨g, g2⟩ | ⟨j, -, g2, g3, g4, -⟩
  · rw [g] at h
    simp at h
  · by_cases h2 : k = 2
    · subst h2
      by_cases hx : x = -1
      · exact ⟨j, 16, by omega, Or.inr ⟨g3, Or.inr (Or.inl ⟨rfl, hx, rfl⟩)⟩⟩
      · simp [hx] at h
    · simp [h2] at h
end P35

/-- class, then reference: the same answer, and INV holds again -/
def LPr (e : Nat) (I : Nat → Nat → Int32) (L : Nat → Nat → Int64) (R : Nat → Nat → Option Nat) (mx mm : Nat) (lx lm : List Value) : Prop :=
  ∃ (v : Int32) (h1 h2 : rt_H), Ev mx 0 lx [] (71 + e, I, L, R) = some (some (.int v), h1) ∧ Ev mm 0 lm [] h1 = some (some (.int v), h2) ∧ INV h2
section P44
variable {e : Nat} {I I1 I2 : Nat → Nat → Int32} {L : Nat → Nat → Int64} {R : Nat → Nat → Option Nat} {a b T E j n : Nat} {x y k w u to_ : Int32} {so : Nat → Int32} {g : SgT} {mx mm : Nat} {lx lm : List Value}
theorem LPr_PR (h : INVx e I L R a b) (hp : PR e L R mx mm lx lm I) : LPr e I L R mx mm lx lm := by
  obtain ⟨v, I1, I2, h1, h2, h3⟩ := hp
  exact ⟨v, _, _, h1, h2, e, I2, L, R, a, b, rfl, INVx_fr h h3⟩
/-- nothing changes -/
theorem LPr_same (h : INVx e I L R a b) {v : Int32} (h1 : Ev mx 0 lx [] (71 + e, I, L, R) = some (some (.int v), (71 + e, I, L, R))) (h2 : Ev mm 0 lm [] (71 + e, I, L, R) = some (some (.int v), (71 + e, I, L, R))) : LPr e I L R mx mm lx lm := ⟨v, _, _, h1, h2, e, I, L, R, a, b, rfl, h⟩
theorem lp_where (h : INVx e I L R a b) : LPr e I L R mX9_where mX10_where [.ref 0, .int x] [.ref 33, .int x] := by
  have h0 := h
  obtain ⟨hR, -, T, E, n, S, M, nw, tp, td, to2, wl, ln, g1, -⟩ := h
  rcases xio x (T := T) (by have := g1.1; omega) with ho | ⟨j, hj, rfl⟩
  · exact LPr_same h0 (x_where_out hR g1.2.2.1 g1.1 ho) (m_where_out hR g1.2.2.2.1 g1.1 ho)
  · have := m_where_in (e := e) (L := L) hR g1.2.2.2.1 g1.1 hj
    rw [g1.2.2.2.2.2.2.1.2.2.2] at this
    exact LPr_same h0 (x_where_in hR g1.2.2.1 g1.1 hj) this
theorem lp_over (h : INVx e I L R a b) : LPr e I L R mX9_over mX10_over [.ref 0, .int x, .int k] [.ref 33, .int x, .int k] := by
  have h0 := h
  obtain ⟨hR, -, T, E, n, S, M, nw, tp, td, to2, wl, ln, g1, -⟩ := h
  have q := g1.2.2.2.2.2.2.1
  have hO := Hist_ok g1.2.2.2.2.2.2.2.2.2
  rcases xio x (T := T) (by have := g1.1; omega) with ho | ⟨j, hj, rfl⟩
  · exact LPr_same h0 (x_over_out hR g1.2.2.1 g1.1 ho) (m_over_out hR g1.2.2.2.1 g1.1 ho)
  · have := m_over_in (e := e) (L := L) (k := k) hR g1.2.2.2.1 g1.1 (by rw [q.1, q.2.2.2]; exact hO) hj
    rw [q.1, q.2.2.2] at this
    exact LPr_same h0 (x_over_in hR g1.2.2.1 g1.1 hj) this
theorem lastw_congr {f1 f2 t1 t2 : Nat → Int32} {x : Int32} : ∀ n, (∀ q, q < n → f1 q = f2 q ∧ t1 q = t2 q) → lastw f1 t1 x n = lastw f2 t2 x n := by
  intro n
  induction n with
  | zero => intro _; rfl
  | succ n ih =>
    intro h
    obtain ⟨h1, h2⟩ := h n (by omega)
    simp only [lastw]
    rw [h1, h2, ih (fun q hq => h q (by omega))]
theorem lp_was (h : INVx e I L R a b) : LPr e I L R mX9_was mX10_was [.ref 0, .int x, .int y] [.ref 33, .int x, .int y, .float 0] := by
  have h0 := h
  obtain ⟨hR, -, T, E, n, S, M, nw, tp, td, to2, wl, ln, g1, -⟩ := h
  obtain ⟨r1, r2, r3, r4, r5, r6, q, r8, r9, r10⟩ := g1
  rcases xio x (T := T) (by omega) with ho | ⟨j, hj, rfl⟩
  · exact LPr_same h0 (x_was_out hR r3 r1 r5 r2 (Or.inl ho)) (m_was_out hR r4 r1 r6 r2 (Or.inl ho))
  · rcases xio y (T := E) (by omega) with ho | ⟨k, hk, rfl⟩
    · exact LPr_same h0 (x_was_out hR r3 r1 r5 r2 (Or.inr ho)) (m_was_out hR r4 r1 r6 r2 (Or.inr ho))
    · have hx := x_was_in (e := e) (L := L) hR r3 r1 r5 r2 hj hk
      rw [lastw_congr (f2 := I 39) (t2 := I 40) (k + 1) (fun q hq => ⟨(r9 q (by omega)).2.1, (r9 q (by omega)).2.2.1⟩)] at hx
      exact LPr_same h0 hx (m_was_in hR r4 r1 r6 r2 hj hk)
theorem lp_event (h : INVx e I L R a b) : LPr e I L R mX9_event mX10_event [.ref 0, .int x, .int y] [.ref 33, .int x, .int y] := by
  have h0 := h
  obtain ⟨hR, -, T, E, n, S, M, nw, tp, td, to2, wl, ln, g1, -⟩ := h
  obtain ⟨r1, r2, r3, r4, r5, r6, q, r8, r9, r10⟩ := g1
  rcases xio x (T := E) (by omega) with ho | ⟨k, hk, rfl⟩
  · exact LPr_same h0 (x_event_out hR r5 r2 (Or.inl ho)) (m_event_out hR r6 r2 ho)
  · have hm := m_event_in (e := e) (L := L) (y := y) hR r6 r2 hk
    rcases xio y (T := 6) (by omega) with ho | ⟨p, hp, rfl⟩
    · have hx := x_event_out (e := e) (L := L) (x := nI k) hR r5 r2 (Or.inr ho)
      have hn : ∀ p, p < 6 → ¬ y = nI p := by
        intro p hp hy
        subst hy
        rcases ho with ho | ho
        · exact nI_pos (by omega) ho
        · exact nI_ge (show p < 6 by omega) (by omega) ho
      have e0 : ¬ y = 0 := hn 0 (by omega)
      have e1 : ¬ y = 1 := hn 1 (by omega)
      have e2 : ¬ y = 2 := hn 2 (by omega)
      have e3 : ¬ y = 3 := hn 3 (by omega)
      have e4 : ¬ y = 4 := hn 4 (by omega)
      have e5 : ¬ y = 5 := hn 5 (by omega)
      rw [if_neg e0, if_neg e1, if_neg e2, if_neg e3, if_neg e4, if_neg e5] at hm
      exact LPr_same h0 hx hm
    · have hx := x_event_in (e := e) (L := L) hR r5 r2 hk hp
      obtain ⟨a1, a2, a3, a4, a5, a6⟩ := r9 k hk
      have hc : p = 0 ∨ p = 1 ∨ p = 2 ∨ p = 3 ∨ p = 4 ∨ p = 5 := by omega
      rcases hc with rfl | rfl | rfl | rfl | rfl | rfl
      · rw [Nat.add_zero, a1] at hx; exact LPr_same h0 hx hm
      · rw [a2] at hx; exact LPr_same h0 hx hm
      · rw [a3] at hx; exact LPr_same h0 hx hm
      · rw [a4] at hx; exact LPr_same h0 hx hm
      · rw [a5] at hx; exact LPr_same h0 hx hm
      · rw [a6] at hx; exact LPr_same h0 hx hm
theorem lp_mentioned (h : INVx e I L R a b) : LPr e I L R mX9_mentioned mX10_mentioned [.ref 0, .int x] [.ref 33, .int x] := by
  have h0 := h
  obtain ⟨hR, -, T, E, n, S, M, nw, tp, td, to2, wl, ln, g1, g2, g3, -⟩ := h
  obtain ⟨m1, m2, m3, m4, m5, m6, m7, -⟩ := g3
  rcases xio x (T := M) (by omega) with ho | ⟨k, hk, rfl⟩
  · exact LPr_same h0 (x_mentioned_out hR m5 (by omega) ho) (m_mentioned_out hR m6 (by omega) ho)
  · obtain ⟨z, z1, z2, z3⟩ := m7 (M - 1 - k) (by omega)
    have hx := x_mentioned_in (e := e) (L := L) hR m5 (by omega) hk
    have hm := m_mentioned_in (e := e) (L := L) hR m6 (by omega) hk
    rw [z2] at hx
    rw [z3] at hm
    exact LPr_same h0 hx hm
theorem lp_owned (h : INVx e I L R a b) : LPr e I L R mX9_owned mX10_owned [.ref 0, .int x] [.ref 33, .int x, .float 0, .float 0, .float 0] := by
  have h0 := h
  obtain ⟨hR, -, T, E, n, S, M, nw, tp, td, to2, wl, ln, g1, g2, g3, -⟩ := h
  obtain ⟨ST, s1, s2, s3, s4, s5⟩ := g3.2.2.2.2.2.2.2.1
  have h16 := g1.1
  rcases xio x (T := T) (by omega) with ho | ⟨j, hj, rfl⟩
  · exact LPr_same h0 (x_owned_out hR g1.2.2.1 g1.1 ho) (m_owned_out hR g1.2.2.2.1 g1.1 ho)
  · have hx := x_owned_in (e := e) (L := L) hR g1.2.2.1 g1.1 hj
    obtain ⟨a1, a2⟩ := s4 j (by omega)
    rw [a1, a2] at hx
    exact LPr_same h0 hx (m_owned_in hR g1.2.2.2.1 g1.1 s3 s1 s5 hj)
theorem lp_breaks (h : INVx e I L R a b) : LPr e I L R mX9_breaks mX10_breaks [.ref 0, .int x] [.ref 33, .int x] := by
  have h0 := h
  obtain ⟨hR, -, T, E, n, S, M, nw, tp, td, to2, wl, ln, g1, g2, g3, -⟩ := h
  obtain ⟨JD, OW, j1, j2, j3, j4, j5, j6, j7, j8⟩ := g3.2.2.2.2.2.2.2.2
  have hx := x_breaks (e := e) (I := I) (L := L) (x := x) hR
  have hm := m_breaks (e := e) (I := I) (L := L) (x := x) hR
  have he : (if x = 0 then I 33 64 else if x = 1 then (if I 33 64 ≤ 0 then -1 else I 33 65) else -1) = (if x = 0 then I 15 6 else if x = 1 then I 15 7 else -1) := by
    rw [j5, j6]
    by_cases hO : OW = 0
    · subst hO
      rw [j7 rfl, nI_0, if_pos (Int32.le_refl 0)]
    · obtain ⟨f, f1, f2, f3⟩ := j8 (by omega)
      rw [f2, f3, if_neg (nI_nle (by omega) (by omega))]
  rw [he] at hm
  exact LPr_same h0 hx hm
theorem cnt_congr {f1 f2 : Nat → Int32} {v : Int32} : ∀ n i, (∀ q, i ≤ q → q < i + n → f1 q = f2 q) → cnt f1 v i n = cnt f2 v i n := by
  intro n
  induction n with
  | zero => intro i _; rfl
  | succ n ih =>
    intro i h
    simp only [cnt]
    rw [h i (by omega) (by omega), ih (i + 1) (fun q h1 h2 => h q (by omega) (by omega))]
theorem lp_acts (h : INVx e I L R a b) : LPr e I L R mX9_acts mX10_acts [.ref 0, .int x] [.ref 33, .int x, .float 0, .float 0] := by
  have h0 := h
  obtain ⟨hR, -, T, E, n, S, M, nw, tp, td, to2, wl, ln, g1, g2, g3, -⟩ := h
  obtain ⟨r1, r2, r3, r4, r5, r6, q, r8, r9, r10⟩ := g1
  obtain ⟨m1, m2, m3, m4, -⟩ := g3
  rcases xio x (T := S) (by omega) with ho | ⟨k, hk, rfl⟩
  · exact LPr_same h0 (x_acts_out hR m3 m1 ho) (m_acts_out hR m4 m1 ho)
  · have hx := x_acts_in (e := e) (L := L) hR r5 r2 m3 m1 hk
    rw [cnt_congr (f2 := I 42) E 0 (fun q h1 h2 => (r9 q (by omega)).2.2.2.2.1)] at hx
    exact LPr_same h0 hx (m_acts_in hR r6 r2 m4 m1 hk)
theorem lp_noun (h : INVx e I L R a b) : LPr e I L R mX9_noun mX10_noun [.ref 0, .int x] [.ref 33, .int x] := by
  have h0 := h
  obtain ⟨hR, -, T, E, n, S, M, nw, tp, td, to2, wl, ln, g1, g2, g3, g4, -⟩ := h
  obtain ⟨it, th, hB⟩ := INV_BB hR g1 g3 g4
  exact LPr_PR h0 (p_noun hB)
theorem lp_reading (h : INVx e I L R a b) : LPr e I L R mX9_reading mX10_reading [.ref 0, .int x, .int y] [.ref 33, .int x, .int y] := by
  have h0 := h
  obtain ⟨hR, -, T, E, n, S, M, nw, tp, td, to2, wl, ln, g1, g2, g3, g4, g5, g6⟩ := h
  obtain ⟨it, th, hB⟩ := INV_BB hR g1 g3 g4
  rcases g6 with ⟨a1, a2⟩ | ⟨q, NR, dg, fm, dn, hh, -⟩
  · exact LPr_PR h0 (p_reading_no hR a1 a2)
  · exact LPr_PR h0 (p_reading hB hh)
theorem lp_means (h : INVx e I L R a b) : LPr e I L R mX9_means mX10_means [.ref 0, .int x, .int y] [.ref 33, .int x, .int y] := by
  have h0 := h
  obtain ⟨hR, -, T, E, n, S, M, nw, tp, td, to2, wl, ln, g1, g2, g3, g4, g5, g6⟩ := h
  obtain ⟨it, th, hB⟩ := INV_BB hR g1 g3 g4
  rcases g6 with ⟨a1, a2⟩ | ⟨q, NR, dg, fm, dn, hh, -⟩
  · exact LPr_PR h0 (p_means_no hR a1 a2)
  · exact LPr_PR h0 (p_means hB hh)
theorem lp_trouble (h : INVx e I L R a b) : LPr e I L R mX9_trouble mX10_trouble [.ref 0, .int x, .int y] [.ref 33, .int x, .int y, .float 0] := by
  have h0 := h
  obtain ⟨hR, -, T, E, n, S, M, nw, tp, td, to2, wl, ln, g1, g2, g3, g4, g5, g6⟩ := h
  obtain ⟨it, th, hB⟩ := INV_BB hR g1 g3 g4
  rcases g6 with ⟨a1, a2⟩ | ⟨q, NR, dg, fm, dn, hh, -⟩
  · exact LPr_PR h0 (p_trouble_no hR a1 a2)
  · exact LPr_PR h0 (p_trouble hB hh)
theorem lp_taken (h : INVx e I L R a b) : LPr e I L R mX9_taken mX10_taken [.ref 0] [.ref 33] := by
  have h0 := h
  obtain ⟨hR, -, T, E, n, S, M, nw, tp, td, to2, wl, ln, g1, g2, g3, g4, g5, g6⟩ := h
  obtain ⟨it, th, hB⟩ := INV_BB hR g1 g3 g4
  rcases g6 with ⟨a1, a2⟩ | ⟨q, NR, dg, fm, dn, hh, -⟩
  · exact LPr_PR h0 (p_taken_no hR a1 a2)
  · exact LPr_PR h0 (p_taken hB hh)
theorem lp_answer (h : INVx e I L R a b) : LPr e I L R mX9_answer mX10_answer [.ref 0, .float 0] [.ref 33] := by
  have h0 := h
  obtain ⟨hR, -, T, E, n, S, M, nw, tp, td, to2, wl, ln, g1, g2, g3, g4, g5, g6⟩ := h
  obtain ⟨it, th, hB⟩ := INV_BB hR g1 g3 g4
  rcases g6 with ⟨a1, a2⟩ | ⟨q, NR, dg, fm, dn, hh, -⟩
  · exact LPr_PR h0 (p_answer_no hR a1 a2)
  · exact LPr_PR h0 (p_answer hB hh)
theorem lp_plan (h : INVx e I L R a b) : LPr e I L R mX9_plan mX10_plan [.ref 0, .int x] [.ref 33, .int x] := by
  have h0 := h
  obtain ⟨hR, -, T, E, n, S, M, nw, tp, td, to2, wl, ln, g1, g2, g3, g4, g5, g6⟩ := h
  obtain ⟨it, th, hB⟩ := INV_BB hR g1 g3 g4
  rcases g6 with ⟨a1, a2⟩ | ⟨q, NR, dg, fm, dn, hh, -⟩
  · exact LPr_PR h0 (p_plan_no hR a1 a2)
  · exact LPr_PR h0 (p_plan hB hh)
theorem lp_count (h : INVx e I L R a b) : LPr e I L R mX9_count mX10_count [.ref 0, .int x] [.ref 33, .int x] := by
  have h0 := h
  obtain ⟨hR, -, T, E, n, S, M, nw, tp, td, to2, wl, ln, g1, g2, g3, g4, g5, g6⟩ := h
  obtain ⟨r1, r2, r3, r4, r5, r6, -⟩ := g1
  obtain ⟨t1, t2, t3, -⟩ := g2
  obtain ⟨m1, m2, m3, m4, m5, m6, m7, ⟨ST, s1, s2, s3, -⟩, ⟨JD, OW, j1, j2, j3, j4, -⟩⟩ := g3
  obtain ⟨w1, w2, w3, w4, -⟩ := g4
  have hm := m_count (e := e) (I := I) (L := L) (x := x) hR
  rcases g6 with ⟨a1, a2⟩ | ⟨q, NR, dg, fm, dn, hh, -⟩
  · have hx := x_count (e := e) (I := I) (L := L) (x := x) hR (by rw [a1]; rfl)
    rw [r3, r5, m3, w3, s2, j3, t2, a1] at hx
    rw [r4, r6, m4, w4, s3, j4, t3, a2] at hm
    simp only [if_true] at hx hm
    refine LPr_same h0 hx ?_
    rw [hm]
    congr 3
    split <;> (try rfl)
    split <;> (try rfl)
    split <;> (try rfl)
    split <;> (try rfl)
    split <;> (try rfl)
    split <;> (try rfl)
    split <;> (try rfl)
    split <;> (try rfl)
    split <;> (try rfl)
    split <;> (try rfl)
    split <;> rfl
  · obtain ⟨hy, hM, b3, b4, b5, b6⟩ := hh
    have hx := x_count (e := e) (I := I) (L := L) (x := x) hR (by rw [b5]; rfl)
    rw [r3, r5, m3, w3, s2, j3, t2, b5, hy.1.1, hy.1.2.1, hy.2.1] at hx
    have p1 := hM.1.1
    have p2 := hM.1.2.1
    rw [r4, r6, m4, w4, s3, j4, t3, b6, p1, p2, hM.2.1] at hm
    simp only [q_10, if_false] at hx hm
    exact LPr_same h0 hx hm
end P44

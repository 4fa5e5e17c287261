section P46
variable {e : Nat} {I I1 I2 : Nat → Nat → Int32} {L : Nat → Nat → Int64} {R : Nat → Nat → Option Nat} {a b T E j n : Nat} {x y k w u to_ v v1 v2 v3 v4 v5 : Int32} {so : Nat → Int32} {g : SgT} {mx mm : Nat} {lx lm : List Value}
theorem lp_undo (h : INVx e I L R a b) : LPr e I L R mX9_undo mX10_undo [.ref 0] [.ref 33] := by
  have h0 := h
  obtain ⟨hR, hab, T, E, n, S, M, nw, tp, td, to2, wl, ln, g1, g2, g3, g4, g5, g6⟩ := h
  obtain ⟨r1, r2, r3, r4, r5, r6, ⟨q1, q2, q3, q4⟩, r8, r9, r10⟩ := g1
  cases E with
  | zero => exact LPr_same h0 (x_undo_no hR r5) (m_undo_no hR r6)
  | succ E =>
    obtain ⟨o1, j, j1, j2, j3, j4⟩ := r10
    obtain ⟨b1, b2, b3, b4, b5, b6⟩ := r9 E (by omega)
    have hx := x_undo_ok (e := e) (L := L) hR r3 r1 r5 (by omega) j1 (by rw [b2]; exact j2)
    rw [b6] at hx
    obtain ⟨IX, hIX⟩ : ∃ IX, IX = rt_up (rt_up (rt_up I 1 6 (nI E)) 5 j (I 43 E)) 1 7 (if I 43 E = 17 then nI j else -1) := ⟨_, rfl⟩
    rw [← hIX] at hx
    have fX : ∀ c, c ≠ 1 → c ≠ 5 → IX c = I c := fun c a1 a2 => by rw [hIX, rt_up_f a1, rt_up_f a2, rt_up_f a1]
    have hm := m_undo_ok (e := e) (I := IX) (L := L) hR (by rw [fX 33 (by omega) (by omega)]; exact r6) (by omega) (show j < 16 by omega) (by rw [fX 39 (by omega) (by omega)]; exact j2)
    rw [fX 43 (by omega) (by omega)] at hm
    obtain ⟨IM, hIM⟩ : ∃ IM, IM = rt_up (rt_up IX 33 1 (nI E)) 37 j (I 43 E) := ⟨_, rfl⟩
    rw [← hIM] at hm
    have fA : ∀ c, c ≠ 1 → c ≠ 5 → c ≠ 33 → c ≠ 37 → IM c = I c := fun c a1 a2 a3 a4 => by rw [hIM, rt_up_f a4, rt_up_f a3, fX c a1 a2]
    have f33 : ∀ k, k ≠ 1 → IM 33 k = I 33 k := fun k hk => by rw [hIM, rt_up_n1 (by omega), rt_up_n2 hk, fX 33 (by omega) (by omega)]
    have i5 : IM 5 = updf (I 5) j (I 43 E) := by rw [hIM, rt_up_f (by omega), rt_up_f (by omega), hIX, rt_up_f (by omega), updf_up, rt_up_f (by omega)]
    have i37 : IM 37 = updf (I 37) j (I 43 E) := by rw [hIM, updf_up, rt_up_f (by omega), fX 37 (by omega) (by omega)]
    have hO2 := Hist_ok j4
    have hH2 : IM 1 7 = ff (fun i => IM 5 i = 17) 0 T := by
      rw [i5]
      have : IM 1 7 = if I 43 E = 17 then nI j else -1 := by rw [hIM, rt_up_n1 (by omega), rt_up_n1 (by omega), hIX, rt_up_eq]
      rw [this]
      by_cases h17 : I 43 E = 17
      · rw [if_pos h17]
        exact (held_17 hO2 j1 (by rw [updf_s]; exact h17)).symm
      · rw [if_neg h17]
        rcases j3 with j3 | j3
        · exact absurd j3 h17
        · exact (held_no j3).symm
    refine ⟨_, _, _, hx, hm, e, IM, L, R, a, b, rfl, hR, hab, T, E, n, S, M, nw, tp, td, to2, wl, ln, ?_, ?_, ?_, ?_, ?_, ?_⟩
    · refine ⟨r1, by omega, ?_, ?_, ?_, ?_, ⟨?_, ?_, ?_, ?_⟩, hH2, fun k hk => ?_, ?_⟩
      · rw [hIM, rt_up_n1 (by omega), rt_up_n1 (by omega), hIX, rt_up_n2 (by omega), rt_up_n1 (by omega), rt_up_n2 (by omega)]; exact r3
      · rw [f33 0 (by omega)]; exact r4
      · rw [hIM, rt_up_n1 (by omega), rt_up_n1 (by omega), hIX, rt_up_n2 (by omega), rt_up_n1 (by omega), rt_up_eq]
      · rw [hIM, rt_up_n1 (by omega), rt_up_eq]
      · rw [fA 34 (by omega) (by omega) (by omega) (by omega), fA 2 (by omega) (by omega) (by omega) (by omega)]; exact q1
      · rw [fA 35 (by omega) (by omega) (by omega) (by omega), fA 3 (by omega) (by omega) (by omega) (by omega)]; exact q2
      · rw [fA 36 (by omega) (by omega) (by omega) (by omega), fA 4 (by omega) (by omega) (by omega) (by omega)]; exact q3
      · rw [i37, i5, q4]
      · rw [fA 6 (by omega) (by omega) (by omega) (by omega), fA 38 (by omega) (by omega) (by omega) (by omega), fA 39 (by omega) (by omega) (by omega) (by omega), fA 40 (by omega) (by omega) (by omega) (by omega), fA 41 (by omega) (by omega) (by omega) (by omega), fA 42 (by omega) (by omega) (by omega) (by omega), fA 43 (by omega) (by omega) (by omega) (by omega)]
        exact r9 k (by omega)
      · rw [i5, fA 2 (by omega) (by omega) (by omega) (by omega), fA 39 (by omega) (by omega) (by omega) (by omega), fA 43 (by omega) (by omega) (by omega) (by omega)]
        exact j4
    · exact GTape_fr g2 (fA 7 (by omega) (by omega) (by omega) (by omega)) (fA 8 (by omega) (by omega) (by omega) (by omega)) (fA 44 (by omega) (by omega) (by omega) (by omega)) (f33 13 (by omega))
    · exact GMem_fr g3 (fA 15 (by omega) (by omega) (by omega) (by omega)) (fA 16 (by omega) (by omega) (by omega) (by omega)) (fA 62 (by omega) (by omega) (by omega) (by omega)) (fA 69 (by omega) (by omega) (by omega) (by omega)) (fA 70 (by omega) (by omega) (by omega) (by omega)) (fun k hk => f33 k (by omega))
    · exact GWord_fr g4 (fun c hc => fA c (by omega) (by omega) (by omega) (by omega)) (f33 22 (by omega))
    · exact GLast_fr g5 (by rw [fA 15 (by omega) (by omega) (by omega) (by omega)]) (f33 46 (by omega))
    · exact GHand_fr g6 (fun c hc => fA c (by omega) (by omega) (by omega) (by omega)) (by rw [fA 15 (by omega) (by omega) (by omega) (by omega)]) (fun k hk => f33 k (by omega)) hH2
/-- only the tape has changed: all else holds on -/
theorem INVx_tape (h : INVx e I L R a b) (hc : ∀ c, c ≠ 7 → c ≠ 8 → c ≠ 33 → c ≠ 44 → I2 c = I c) (hk : ∀ k, k ≠ 13 → I2 33 k = I 33 k) (hT : ∃ n, GTape I2 n) : INVx e I2 L R a b := by
  obtain ⟨hR, hab, T, E, n, S, M, nw, tp, td, to2, wl, ln, g1, g2, g3, g4, g5, g6⟩ := h
  obtain ⟨n2, hT⟩ := hT
  obtain ⟨g, rfl, gx, gm, gh⟩ := GRoom_of g1
  have hx2 := RXr_fr (I2 := I2) gx (hc 1 (by omega) (by omega) (by omega) (by omega)) (hc 2 (by omega) (by omega) (by omega) (by omega)) (hc 5 (by omega) (by omega) (by omega) (by omega)) (hc 6 (by omega) (by omega) (by omega) (by omega))
  have hm2 := RMr_fr (I2 := I2) gm (hk 0 (by omega)) (hk 1 (by omega)) (fun c h1 h2 => hc c (by omega) (by omega) (by omega) (by omega))
  have hG : GRoom I2 T g.1 := GRoom_mk g1.1 g1.2.1 hx2 hm2 (by rw [hc 35 (by omega) (by omega) (by omega) (by omega), hc 3 (by omega) (by omega) (by omega) (by omega)]; exact g1.2.2.2.2.2.2.1.2.1) (by rw [hc 36 (by omega) (by omega) (by omega) (by omega), hc 4 (by omega) (by omega) (by omega) (by omega)]; exact g1.2.2.2.2.2.2.1.2.2.1) gh
  exact ⟨hR, hab, T, g.1, n2, S, M, nw, tp, td, to2, wl, ln, hG, hT, GMem_fr g3 (hc 15 (by omega) (by omega) (by omega) (by omega)) (hc 16 (by omega) (by omega) (by omega) (by omega)) (hc 62 (by omega) (by omega) (by omega) (by omega)) (hc 69 (by omega) (by omega) (by omega) (by omega)) (hc 70 (by omega) (by omega) (by omega) (by omega)) (fun k h => hk k (by omega)), GWord_fr g4 (fun c h => hc c (by omega) (by omega) (by omega) (by omega)) (hk 22 (by omega)), GLast_fr g5 (by rw [hc 15 (by omega) (by omega) (by omega) (by omega)]) (hk 46 (by omega)), GHand_fr g6 (fun c h => hc c (by omega) (by omega) (by omega) (by omega)) (by rw [hc 15 (by omega) (by omega) (by omega) (by omega)]) (fun k h => hk k (by omega)) hG.2.2.2.2.2.2.2.1⟩
/-- what the tape holds on both sides, from byte lo on -/
def TB (I : Nat → Nat → Int32) (n : Nat) : Prop := ∀ k, k < n → I 44 k = (I 8 k).toInt8.toInt32 ∧ ∃ v, v < 256 ∧ I 8 k = nI v
theorem bX_small (v s : Int32) : ∃ z, z < 256 ∧ bX v s = nI z := by
  obtain ⟨j, h1, h2⟩ := pk_andE ((v.toUInt32 >>> (s.toUInt32 &&& Int32.toUInt32 31)).toInt32) (m := 255) 8 (by decide)
  exact ⟨j, by omega, h2⟩
theorem fdX_8 : fdX I n v 8 = updf (updf (updf (updf (I 8) n (bX v 24)) (n + 1) (bX v 16)) (n + 1 + 1) (bX v 8)) (n + 1 + 1 + 1) (bX v 0) := by
  unfold fdX
  rw [rt_up_f (by omega), updf_up, rt_up_f (by omega), updf_up, rt_up_f (by omega), updf_up, rt_up_f (by omega), updf_up]
theorem fdX_c {c : Nat} (h7 : c ≠ 7) (h8 : c ≠ 8) : fdX I n v c = I c := by
  unfold fdX
  rw [rt_up_f h7, rt_up_f h8, rt_up_f h7, rt_up_f h8, rt_up_f h7, rt_up_f h8, rt_up_f h7, rt_up_f h8]
theorem fdM_44 : fdM I n v 44 = updf (updf (updf (updf (I 44) n (bM v 24)) (n + 1) (bM v 16)) (n + 1 + 1) (bM v 8)) (n + 1 + 1 + 1) (bM v 0) := by
  unfold fdM
  rw [rt_up_f (by omega), updf_up, rt_up_f (by omega), updf_up, rt_up_f (by omega), updf_up, rt_up_f (by omega), updf_up]
theorem fdM_c {c : Nat} (h7 : c ≠ 33) (h8 : c ≠ 44) : fdM I n v c = I c := by
  unfold fdM
  rw [rt_up_f h7, rt_up_f h8, rt_up_f h7, rt_up_f h8, rt_up_f h7, rt_up_f h8, rt_up_f h7, rt_up_f h8]
theorem fdM_33 {q : Nat} (h : q ≠ 13) : fdM I n v 33 q = I 33 q := by
  unfold fdM
  rw [rt_up_n2 h, rt_up_n1 (by omega), rt_up_n2 h, rt_up_n1 (by omega), rt_up_n2 h, rt_up_n1 (by omega), rt_up_n2 h, rt_up_n1 (by omega)]
theorem tb_step {X M2 : Nat → Int32} (h : ∀ k, k < n → M2 k = (X k).toInt8.toInt32 ∧ ∃ v, v < 256 ∧ X k = nI v) : ∀ k, k < n + 4 → updf (updf (updf (updf M2 n (bM v 24)) (n + 1) (bM v 16)) (n + 1 + 1) (bM v 8)) (n + 1 + 1 + 1) (bM v 0) k = (updf (updf (updf (updf X n (bX v 24)) (n + 1) (bX v 16)) (n + 1 + 1) (bX v 8)) (n + 1 + 1 + 1) (bX v 0) k).toInt8.toInt32 ∧ ∃ z, z < 256 ∧ updf (updf (updf (updf X n (bX v 24)) (n + 1) (bX v 16)) (n + 1 + 1) (bX v 8)) (n + 1 + 1 + 1) (bX v 0) k = nI z := by
  intro k hk
  by_cases k3 : k = n + 1 + 1 + 1
  · subst k3
    rw [updf_s, updf_s]
    exact ⟨(b_sh 0 (by decide) (by decide) (by omega)).symm, bX_small v 0⟩
  · rw [updf_n k3, updf_n k3]
    by_cases k2 : k = n + 1 + 1
    · subst k2
      rw [updf_s, updf_s]
      exact ⟨(b_sh 8 (by decide) (by decide) (by omega)).symm, bX_small v 8⟩
    · rw [updf_n k2, updf_n k2]
      by_cases k1 : k = n + 1
      · subst k1
        rw [updf_s, updf_s]
        exact ⟨(b_sh 16 (by decide) (by decide) (by omega)).symm, bX_small v 16⟩
      · rw [updf_n k1, updf_n k1]
        by_cases k0 : k = n
        · subst k0
          rw [updf_s, updf_s]
          exact ⟨(b_sh 24 (by decide) (by decide) (by omega)).symm, bX_small v 24⟩
        · rw [updf_n k0, updf_n k0]
          exact h k (by omega)
theorem lp_feed (h : INVx e I L R a b) : LPr e I L R mX9_feed mX10_feed [.ref 0, .int v1, .int v2, .int v3, .int v4, .int v5] [.ref 33, .int v1, .int v2, .int v3, .int v4, .int v5] := by
  have h0 := h
  obtain ⟨hR, hab, T, E, n, S, M, nw, tp, td, to2, wl, ln, g1, ⟨t1, t2, t3, t4⟩, -⟩ := h
  by_cases hn : n ≤ 180
  · have hx := x_feed_ok (e := e) (L := L) (v1 := v1) (v2 := v2) (v3 := v3) (v4 := v4) (v5 := v5) hR t2 hn
    obtain ⟨IX, hIX⟩ : ∃ IX, IX = fdX (fdX (fdX (fdX (fdX I n v1) (n + 4) v2) (n + 8) v3) (n + 12) v4) (n + 16) v5 := ⟨_, rfl⟩
    rw [← hIX] at hx
    have fX : ∀ c, c ≠ 7 → c ≠ 8 → IX c = I c := fun c a1 a2 => by rw [hIX, fdX_c a1 a2, fdX_c a1 a2, fdX_c a1 a2, fdX_c a1 a2, fdX_c a1 a2]
    have hm := m_feed_ok (e := e) (I := IX) (L := L) (v1 := v1) (v2 := v2) (v3 := v3) (v4 := v4) (v5 := v5) hR (by rw [fX 33 (by omega) (by omega)]; exact t3) hn
    obtain ⟨IM, hIM⟩ : ∃ IM, IM = fdM (fdM (fdM (fdM (fdM IX n v1) (n + 4) v2) (n + 8) v3) (n + 12) v4) (n + 16) v5 := ⟨_, rfl⟩
    rw [← hIM] at hm
    have fM : ∀ c, c ≠ 33 → c ≠ 44 → IM c = IX c := fun c a1 a2 => by rw [hIM, fdM_c a1 a2, fdM_c a1 a2, fdM_c a1 a2, fdM_c a1 a2, fdM_c a1 a2]
    refine ⟨_, _, _, hx, hm, e, IM, L, R, a, b, rfl, INVx_tape h0 (fun c a1 a2 a3 a4 => by rw [fM c a3 a4, fX c a1 a2]) (fun k hk => by rw [hIM, fdM_33 hk, fdM_33 hk, fdM_33 hk, fdM_33 hk, fdM_33 hk, fX 33 (by omega) (by omega)]) ⟨n + 20, by omega, ?_, ?_, ?_⟩⟩
    · rw [fM 7 (by omega) (by omega), hIX]
      exact rt_up_eq
    · rw [hIM]
      exact rt_up_eq
    · have s8 : IM 8 = IX 8 := fM 8 (by omega) (by omega)
      rw [s8, hIX, hIM, fdX_8, fdX_8, fdX_8, fdX_8, fdX_8, fdM_44, fdM_44, fdM_44, fdM_44, fdM_44, fX 44 (by omega) (by omega)]
      exact tb_step (n := n + 16) (tb_step (n := n + 12) (tb_step (n := n + 8) (tb_step (n := n + 4) (tb_step t4))))
  · exact LPr_same h0 (x_feed_no hR t2 t1 (by omega)) (m_feed_no hR t3 t1 (by omega))
theorem and255 {z : Nat} (h : z < 256) : nI z &&& 255 = nI z := by
  have := pk_andN (n := z) (by omega) (m := 255) 8 (by decide)
  rw [this, Nat.mod_eq_of_lt (by omega)]
theorem i8_and {x : Int32} {z : Nat} (h : z < 256) (hx : x = nI z) : x.toInt8.toInt32 &&& 255 = x &&& 255 := by
  subst hx
  have key : ∀ z, z < 256 → (nI z).toInt8.toInt32 &&& 255 = nI z &&& 255 := by decide +kernel
  exact key z h
theorem lp_check (h : INVx e I L R a b) : LPr e I L R mX9_check mX10_check [.ref 0, .int x, .float 0] [.ref 33, .int x, .float 0] := by
  have h0 := h
  obtain ⟨hR, hab, T, E, n, S, M, nw, tp, td, to2, wl, ln, g1, ⟨t1, t2, t3, t4⟩, -⟩ := h
  have h16 := g1.1
  have q := g1.2.2.2.2.2.2.1
  by_cases hx : x < 0 ∨ ∃ k, x = nI k ∧ k < 2147483648 ∧ n < 8 * k
  · exact LPr_same h0 (x_check_no hR t2 t1 hx) (m_check_no hR t3 t1 hx)
  · obtain ⟨k, hk, rfl⟩ := nI_of (x := x) (fun h => hx (Or.inl h))
    have h8 : 8 * k ≤ n := by
      apply Nat.le_of_not_lt
      intro h8
      exact hx (Or.inr ⟨k, rfl, hk, h8⟩)
    have hX := x_check_ok (e := e) (L := L) hR g1.2.2.1 h16 t2 t1 h8
    have f7 : ∀ c, c ≠ 7 → rt_up I 7 1 0 c = I c := fun c hc => rt_up_f hc
    have hM := m_check_ok (e := e) (I := rt_up I 7 1 0) (L := L) hR (by rw [f7 33 (by omega)]; exact g1.2.2.2.1) h16 (by rw [f7 33 (by omega)]; exact t3) t1 h8
    rw [f7 44 (by omega), f7 37 (by omega), q.2.2.2] at hM
    rw [fw_eq k T 0 (by omega) (by omega), fwr_congr (g := I 8) (fun q hq => by
      obtain ⟨c1, z, c2, c3⟩ := t4 q (by omega)
      rw [c1]
      exact i8_and c2 c3) k 0 (by omega)] at hM
    refine ⟨_, _, _, hX, hM, e, _, L, R, a, b, rfl, INVx_tape h0 (fun c a1 a2 a3 a4 => by rw [rt_up_f a3, rt_up_f a1]) (fun k hk => by rw [rt_up_n2 hk, rt_up_n1 (by omega)]) ⟨0, by omega, ?_, ?_, fun k hk => by omega⟩⟩
    · rw [rt_up_n1 (by omega), rt_up_eq]; rfl
    · rw [rt_up_eq]; rfl
theorem lp_judge (h : INVx e I L R a b) : LPr e I L R mX9_judge mX10_judge [.ref 0, .int x, .float 0] [.ref 33, .int x, .float 0] := by
  have h0 := h
  obtain ⟨hR, hab, T, E, n, S, M, nw, tp, td, to2, wl, ln, g1, g2, g3, g4, g5, g6⟩ := h
  obtain ⟨it, th, hB⟩ := INV_BB hR g1 g3 g4
  have g6' := g6
  rcases g6 with ⟨a1, a2⟩ | ⟨q, NR, dg, fm, dn, hh, -⟩
  · exact LPr_PR h0 (p_judge_no hR a1 a2)
  · obtain ⟨m1, m2, m3, m4, m5, m6, m7, m8, ⟨JD, OW, j1, j2, j3, j4, j5, j6, j7, j8⟩⟩ := g3
    rcases p_judge (L := L) (x := x) hB hh j1 j3 j4 with hp | ⟨hJ, same, I1, I2, hX, hM, c1, c2, c3⟩
    · exact LPr_PR h0 hp
    · have hX15 : ∀ c, c ≠ 15 → jdX I1 same c = I1 c := by
        intro c hc
        unfold jdX
        rw [rt_up_f hc]
        split
        · rfl
        · split
          · rw [rt_up_f hc, rt_up_f hc]
          · rw [rt_up_f hc]
      have hM33 : ∀ c, c ≠ 33 → jdM I2 same c = I2 c := by
        intro c hc
        unfold jdM
        rw [rt_up_f hc]
        split
        · rfl
        · rw [rt_up_f hc, rt_up_f hc]
      have hMk : ∀ k, k < 63 ∨ 65 < k → jdM I2 same 33 k = I2 33 k := by
        intro k hk
        unfold jdM
        rw [rt_up_n2 (by omega)]
        split
        · rfl
        · rw [rt_up_n2 (by omega), rt_up_n2 (by omega)]
      have fA : ∀ c, c ≠ 15 → c ≠ 33 → c < 27 ∨ (33 < c ∧ c < 63) ∨ 68 < c → jdM I2 same c = I c := fun c a1 a2 a3 => by rw [hM33 c a2, c2 c a2 (by omega) (by omega), hX15 c a1, c1 c (by omega)]
      have fK : ∀ k, k < 51 ∨ (55 < k ∧ k < 63) ∨ 65 < k → jdM I2 same 33 k = I 33 k := fun k hk => by rw [hMk k (by omega), c3 k (by omega)]
      have f15 : jdM I2 same 15 = jdX I1 same 15 := by rw [hM33 15 (by omega), c2 15 (by omega) (by omega) (by omega)]
      have x15 : ∀ k, k < 5 ∨ 7 < k → jdX I1 same 15 k = I 15 k := by
        intro k hk
        unfold jdX
        rw [rt_up_n2 (by omega)]
        split
        · rw [c1 15 (by omega)]
        · split
          · rw [rt_up_n2 (by omega), rt_up_n2 (by omega), c1 15 (by omega)]
          · rw [rt_up_n2 (by omega), c1 15 (by omega)]
      have i15 : ∀ k, I1 15 k = I 15 k := fun k => by rw [c1 15 (by omega)]
      have i33 : ∀ k, 62 < k → I2 33 k = I 33 k := fun k hk => c3 k (by omega)
      obtain ⟨g, rfl, gx, gm, gh⟩ := GRoom_of g1
      have hx2 := RXr_fr (I2 := jdM I2 same) gx (fA 1 (by omega) (by omega) (by omega)) (fA 2 (by omega) (by omega) (by omega)) (fA 5 (by omega) (by omega) (by omega)) (fA 6 (by omega) (by omega) (by omega))
      have hm2 := RMr_fr (I2 := jdM I2 same) gm (fK 0 (by omega)) (fK 1 (by omega)) (fun c h1 h2 => fA c (by omega) (by omega) (by omega))
      have hG : GRoom (jdM I2 same) T g.1 := GRoom_mk g1.1 g1.2.1 hx2 hm2 (by rw [fA 35 (by omega) (by omega) (by omega), fA 3 (by omega) (by omega) (by omega)]; exact g1.2.2.2.2.2.2.1.2.1) (by rw [fA 36 (by omega) (by omega) (by omega), fA 4 (by omega) (by omega) (by omega)]; exact g1.2.2.2.2.2.2.1.2.2.1) gh
      refine ⟨_, _, _, hX, hM, e, jdM I2 same, L, R, a, b, rfl, hR, hab, T, g.1, n, S, M, nw, tp, td, to2, wl, ln, hG, ?_, ?_, ?_, ?_, ?_⟩
      · exact GTape_fr g2 (fA 7 (by omega) (by omega) (by omega)) (fA 8 (by omega) (by omega) (by omega)) (fA 44 (by omega) (by omega) (by omega)) (fK 13 (by omega))
      · refine ⟨m1, m2, ?_, ?_, ?_, ?_, ?_, ?_, ?_⟩
        · rw [f15, x15 8 (by omega)]; exact m3
        · rw [fK 61 (by omega)]; exact m4
        · rw [f15, x15 1 (by omega)]; exact m5
        · rw [fK 47 (by omega)]; exact m6
        · rw [fA 16 (by omega) (by omega) (by omega), fA 62 (by omega) (by omega) (by omega)]; exact m7
        · rw [f15, x15 4 (by omega), x15 2 (by omega), x15 3 (by omega), fK 62 (by omega), fA 69 (by omega) (by omega) (by omega), fA 70 (by omega) (by omega) (by omega)]; exact m8
        · have p5 : jdM I2 same 15 5 = nI (JD + 1) := by
            rw [f15]
            unfold jdX
            rw [rt_up_eq, i15, j3, q_s]
          have p63 : jdM I2 same 33 63 = nI (JD + 1) := by
            unfold jdM
            rw [rt_up_eq, i33 63 (by omega), j4, q_s]
          cases same with
          | true =>
            have e6 : jdM I2 true 15 6 = I 15 6 := by rw [f15]; unfold jdX; rw [rt_up_n2 (by omega), if_pos rfl, i15]
            have e7 : jdM I2 true 15 7 = I 15 7 := by rw [f15]; unfold jdX; rw [rt_up_n2 (by omega), if_pos rfl, i15]
            have e64 : jdM I2 true 33 64 = I 33 64 := by unfold jdM; rw [rt_up_n2 (by omega), if_pos rfl, i33 64 (by omega)]
            have e65 : jdM I2 true 33 65 = I 33 65 := by unfold jdM; rw [rt_up_n2 (by omega), if_pos rfl, i33 65 (by omega)]
            exact ⟨JD + 1, OW, by omega, by omega, p5, p63, by rw [e6]; exact j5, by rw [e64]; exact j6, by rw [e7]; exact j7, by rw [e7, e65]; exact j8⟩
          | false =>
            have e6 : jdM I2 false 15 6 = nI (OW + 1) := by
              rw [f15]
              unfold jdX
              rw [rt_up_n2 (by omega), if_neg (by simp)]
              split
              · rw [rt_up_n2 (by omega), rt_up_eq, i15, j5, q_s]
              · rw [rt_up_eq, i15, j5, q_s]
            have e64 : jdM I2 false 33 64 = nI (OW + 1) := by
              unfold jdM
              rw [rt_up_n2 (by omega), if_neg (by simp), rt_up_eq, i33 64 (by omega), j6, q_s]
            refine ⟨JD + 1, OW + 1, by omega, by omega, p5, p63, e6, e64, fun h => by omega, fun _ => ?_⟩
            by_cases hO : OW = 0
            · have e7 : jdM I2 false 15 7 = nI JD := by
                rw [f15]
                unfold jdX
                rw [rt_up_n2 (by omega), if_neg (by simp), if_pos (by rw [i15]; exact j7 hO), rt_up_eq, i15, j3]
              have e65 : jdM I2 false 33 65 = nI JD := by
                unfold jdM
                rw [rt_up_n2 (by omega), if_neg (by simp), rt_up_n2 (by omega), rt_up_eq, if_pos (by rw [i33 64 (by omega), j6, hO]; rfl), i33 63 (by omega), j4]
              exact ⟨JD, hJ, e7, e65⟩
            · obtain ⟨f, f1, f2, f3⟩ := j8 (by omega)
              have e7 : jdM I2 false 15 7 = nI f := by
                rw [f15]
                unfold jdX
                rw [rt_up_n2 (by omega), if_neg (by simp), if_neg (by rw [i15, f2, q_e1 (by omega)]; exact id), rt_up_n2 (by omega), i15, f2]
              have e65 : jdM I2 false 33 65 = nI f := by
                unfold jdM
                rw [rt_up_n2 (by omega), if_neg (by simp), rt_up_n2 (by omega), rt_up_eq, if_neg (by rw [i33 64 (by omega), j6, ← nI_0, q_eq (by omega) (by omega)]; exact hO), i33 65 (by omega), f3]
              exact ⟨f, f1, e7, e65⟩
      · exact GWord_fr g4 (fun c hc => fA c (by omega) (by omega) (by omega)) (fK 22 (by omega))
      · exact GLast_fr g5 (by rw [f15, x15 9 (by omega)]) (fK 46 (by omega))
      · exact GHand_fr g6' (fun c hc => fA c (by omega) (by omega) (by omega)) (by rw [f15, x15 9 (by omega)]) (fun k hk => fK k (by omega)) hG.2.2.2.2.2.2.2.1
end P46

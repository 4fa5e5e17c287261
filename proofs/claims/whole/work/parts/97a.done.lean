section P54
variable {e : Nat} {I I1 I2 J : Nat → Nat → Int32} {L L2 : Nat → Nat → Int64} {R R2 : Nat → Nat → Option Nat} {a b T E j n S nw NR fm r M ST len : Nat} {x y w u to_ : Int32} {q : PhT} {tp : Nat → PhT} {td dg : Nat → Nat → Nat} {to2 : Nat → Option Nat} {it th ln one : Option Nat} {dn : Bool} {mn : Nat → Nat → Bool} {v so : Nat → Int32} {g g2 : SgT} {pl : List AcT}
theorem SX_fr2 (h : SX e I R a b T nw tp td to2 it th) (hf : ∀ c, c < 27 ∨ 32 < c → I2 c = I c) : SX e I2 R a b T nw tp td to2 it th := by
  obtain ⟨h1, h2, h3, h4, h5, h6, h7, h8, h9⟩ := h
  refine ⟨h1, ?_, h3, ?_, h5, ?_, ?_, ?_, ?_⟩
  · rw [hf 1 (by omega)]; exact h2
  · rw [hf 2 (by omega), hf 5 (by omega)]; exact h4
  · rw [hf 9 (by omega)]; exact h6
  · intro k hk
    obtain ⟨g1, g2, g3, g4, g5, g6, g7, g8, g9⟩ := h7 k hk
    refine ⟨g1, g2, PX_fr g3 (fun c hc1 hc2 => hf c (by omega)), g4, g5, g6, ?_, ?_, g9⟩
    · rw [hf 14 (by omega)]; exact g7
    · rw [hf 13 (by omega)]; exact g8
  · rw [hf 15 (by omega), hf 16 (by omega)]; exact h8
  · rw [hf 1 (by omega), hf 6 (by omega)]; exact h9
theorem SM_cl2 (h : SM I R a b T nw tp td to2 it th) (hR : RG R2 a b) (hf : ∀ c, 32 < c → c < 71 → I2 c = I c) : SM I2 R2 a b T nw tp td to2 it th := by
  obtain ⟨h1, h2, h3, h4, h5, h6, h7, h8, h9⟩ := h
  have f33 := hf 33 (by omega) (by omega)
  refine ⟨hR, ?_, h3, ?_, h5, ?_, ?_, ?_, ?_⟩
  · rw [f33]; exact h2
  · rw [hf 34 (by omega) (by omega), hf 37 (by omega) (by omega)]; exact h4
  · rw [f33]; exact h6
  · intro k hk
    obtain ⟨g3, g4, g5, g6, g7, g8, g9⟩ := h7 k hk
    refine ⟨PM_fr g3 (fun c hc1 hc2 => hf c (by omega) (by omega)), g4, g5, g6, ?_, ?_, g9⟩
    · rw [hf 54 (by omega) (by omega)]; exact g7
    · rw [hf 53 (by omega) (by omega)]; exact g8
  · rw [f33, hf 62 (by omega) (by omega)]; exact h8
  · rw [f33, hf 39 (by omega) (by omega)]; exact h9
theorem YM_cl2 (h : YM I q NR dg nw ln) (hf : ∀ c, 32 < c → c < 71 → I2 c = I c) : YM I2 q NR dg nw ln := by
  obtain ⟨h1, h2, h3, h4, h5, h6, h7⟩ := h
  have f33 := hf 33 (by omega) (by omega)
  refine ⟨PM_fr h1 (fun c hc1 hc2 => hf c (by omega) (by omega)), ?_, h3, ?_, ?_, h6, h7⟩
  · rw [f33]; exact h2
  · rw [hf 55 (by omega) (by omega)]; exact h4
  · rw [f33]; exact h5
/-- the reference chooses as the class did, wherever it stands -/
theorem m_taken2 (h : BB e I R a b T nw tp td to2 it th) (hh : HB I a T nw ln q NR dg fm dn) {e2 : Nat} (hR : RG R2 a b) (hf : ∀ c, 32 < c → c < 71 → J c = I c) :
    ∃ J1, Ev mX10_takenReading 0 [.ref 33, .float 0, .float 0, .float 0] [] (71 + e2, J, L2, R2) = some (some (.int (chA T (I 2) (I 5) q fm dn (mnA T (I 2) (I 3) (I 4) (I 5) tp td to2 it th nw ln q dg) dg NR)), (71 + e2, J1, L2, R2)) ∧ (∀ c, c ≠ 33 → c ≠ 63 → c ≠ 64 → J1 c = J c) ∧ (∀ k, k < 51 ∨ 55 < k → J1 33 k = J 33 k) ∧
      ∀ r0, r0 < NR → chA T (I 2) (I 5) q fm dn (mnA T (I 2) (I 3) (I 4) (I 5) tp td to2 it th nw ln q dg) dg NR = nI r0 → (∀ j, j < pP q → J1 63 j = bs (mnA T (I 2) (I 3) (I 4) (I 5) tp td to2 it th nw ln q dg r0 j) T) ∧ J1 33 52 = mvv T (I 2) fm (mnA T (I 2) (I 3) (I 4) (I 5) tp td to2 it th nw ln q dg r0) ∧ J1 33 53 = ptv T (I 2) (I 5) q fm dn (mnA T (I 2) (I 3) (I 4) (I 5) tp td to2 it th nw ln q dg r0) (dg r0) ∧ J1 33 54 = psv q fm dn (dg r0) := by
  obtain ⟨hx, hm, q34, q35, q36, q37⟩ := h
  obtain ⟨hy, hM, hfm, hF, h8, h9⟩ := hh
  obtain ⟨J1, hE2, v1, v2, v3⟩ := m_taken (e := e2) (L := L2) (SM_cl2 hm hR hf) (YM_cl2 hM hf) (by rw [hf 33 (by omega) (by omega)]; exact hfm) hF
  rw [hf 34 (by omega) (by omega), hf 35 (by omega) (by omega), hf 36 (by omega) (by omega), hf 37 (by omega) (by omega), q34, q35, q36, q37] at hE2 v3
  rw [← ch_eq hx.2.2.1 hy.2.2.2.2.2.2.2.1 hF] at hE2 v3
  refine ⟨J1, hE2, v1, v2, fun r0 h1 h2 => ?_⟩
  obtain ⟨-, a1, a2, a3, a4, -⟩ := v3 r0 h1 h2
  exact ⟨a1, a2, a3, a4⟩
theorem stm_congr {s1 s2 o1 o2 : Nat → Int32} {x : Nat} {c : Bool} : ∀ n, (∀ k, k < n → s1 k = s2 k ∧ o1 k = o2 k) → stm s1 o1 x c n = stm s2 o2 x c n := by
  intro n
  induction n with
  | zero => intro _; rfl
  | succ n ih =>
    intro h
    obtain ⟨h1, h2⟩ := h n (by omega)
    rw [stm_s, stm_s, ih (fun k hk => h k (by omega)), h1, h2]
/-- statements, both sides, behind a saying -/
theorem GMem_st {z : Int32} (s4 : ∀ x, x < 16 → bt (I 15 2) x = stm (I 69) (I 70) x true ST ∧ bt (I 15 3) x = stm (I 69) (I 70) x false ST) (s5 : ∀ k, k < ST → rt_bo (I 70 k) = true) (s2 : I 15 4 = nI ST) : ∀ {I2 : Nat → Nat → Int32} {ST2 : Nat}, ST2 = (if fm = 7 ∨ fm = 8 then ST + 1 else ST) → I2 15 2 = stX I fm z 15 2 → I2 15 3 = stX I fm z 15 3 → I2 15 4 = stX I fm z 15 4 → I2 69 = (if fm = 7 ∨ fm = 8 then updf (I 69) ST z else I 69) → I2 70 = (if fm = 7 ∨ fm = 8 then updf (I 70) ST (b01 (decide (fm = 7))) else I 70) → I2 15 4 = nI ST2 ∧ (∀ x, x < 16 → bt (I2 15 2) x = stm (I2 69) (I2 70) x true ST2 ∧ bt (I2 15 3) x = stm (I2 69) (I2 70) x false ST2) ∧ ∀ k, k < ST2 → rt_bo (I2 70 k) = true := by
  intro I2 ST2 hS t2 t3 t4 t69 t70
  by_cases h78 : fm = 7 ∨ fm = 8
  · rw [if_pos h78] at hS t69 t70
    subst hS
    have hcg : ∀ (c : Bool) (x : Nat), stm (updf (I 69) ST z) (updf (I 70) ST (b01 (decide (fm = 7)))) x c ST = stm (I 69) (I 70) x c ST := fun c x => stm_congr ST (fun k hk => ⟨updf_n (by omega), updf_n (by omega)⟩)
    have hbo : ∀ k, k < ST + 1 → rt_bo (I2 70 k) = true := by
      intro k hk
      rw [t70]
      by_cases hkS : k = ST
      · subst hkS
        rw [updf_s]
        cases decide (fm = 7) <;> rfl
      · rw [updf_n hkS]; exact s5 k (by omega)
    rcases h78 with rfl | rfl
    · have e2 : stX I 7 z 15 2 = I 15 2 ||| z := by unfold stX; rw [if_pos rfl, rt_up_n2 (by omega), rt_up_eq]
      have e3 : stX I 7 z 15 3 = I 15 3 := by unfold stX; rw [if_pos rfl, rt_up_n2 (by omega), rt_up_n2 (by omega)]
      have e4 : stX I 7 z 15 4 = nI (ST + 1) := by unfold stX; rw [if_pos rfl, rt_up_eq, s2, q_s]
      refine ⟨by rw [t4, e4], fun x hx => ?_, hbo⟩
      obtain ⟨a1, a2⟩ := s4 x hx
      rw [t2, t3, e2, e3, t69, t70, stm_s, stm_s, hcg, hcg, updf_s, updf_s, b_or, a1, a2]
      have hb : b01 (decide (7 = 7)) = 1 := rfl
      rw [hb]
      simp
    · have e2 : stX I 8 z 15 2 = I 15 2 := by unfold stX; rw [if_neg (by omega), if_pos rfl, rt_up_n2 (by omega), rt_up_n2 (by omega)]
      have e3 : stX I 8 z 15 3 = I 15 3 ||| z := by unfold stX; rw [if_neg (by omega), if_pos rfl, rt_up_n2 (by omega), rt_up_eq]
      have e4 : stX I 8 z 15 4 = nI (ST + 1) := by unfold stX; rw [if_neg (by omega), if_pos rfl, rt_up_eq, s2, q_s]
      refine ⟨by rw [t4, e4], fun x hx => ?_, hbo⟩
      obtain ⟨a1, a2⟩ := s4 x hx
      rw [t2, t3, e2, e3, t69, t70, stm_s, stm_s, hcg, hcg, updf_s, updf_s, b_or, a1, a2]
      have hb : b01 (decide (8 = 7)) = 0 := rfl
      rw [hb]
      simp
  · rw [if_neg h78] at hS t69 t70
    subst hS
    have e0 : stX I fm z = I := by unfold stX; rw [if_neg (fun h => h78 (Or.inl h)), if_neg (fun h => h78 (Or.inr h))]
    rw [e0] at t2 t3 t4
    exact ⟨by rw [t4]; exact s2, fun x hx => by rw [t2, t3, t69, t70]; exact s4 x hx, fun k hk => by rw [t70]; exact s5 k hk⟩
end P54

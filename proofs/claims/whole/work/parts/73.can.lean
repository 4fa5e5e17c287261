section P12
variable {T j : Nat} {so at_ : Nat → Int32} {k x hd : Int32}
theorem q_ite10 {c : Prop} [Decidable c] : ((if c then (1 : Int32) else 0) = 0) = ¬ c := by
  by_cases h : c
  · simp [h]
  · simp [h]
/-- class and reference say the same of an act at a thing -/
theorem can_eq (hO : RoomOK T so at_) (h16 : T ≤ 16) (hj : j < T) (hh : hd = ff (fun i => at_ i = 17) 0 T) (hk : k = 0 ∨ k = 1 ∨ k = 2 ∨ k = 3) : cMi hd T so at_ k j = cXi hd T so at_ k j := by
  have ho := otp_eq hO h16 hj
  unfold otp at ho
  unfold cMi cXi
  rw [ho]
  have hbox : so j = 2 → ¬ nI j = hd := by
    intro hs q
    subst hh
    rcases ff_cases (fun i => at_ i = 17) T 0 with ⟨h1, -⟩ | ⟨i, -, h2, h3, h4, -⟩
    · rw [h1] at q
      exact absurd q (by rw [q_e1 (by omega)]; exact id)
    · rw [h4, q_eq (by omega) (by omega)] at q
      subst q
      exact (hO.2.2.2.1 j hj h3).1 hs
  have hsym : (nI j = hd) = (hd = nI j) := propext ⟨Eq.symm, Eq.symm⟩
  rcases hk with rfl | rfl | rfl | rfl
  · simp
  · simp [q_ite10, hsym]
  · simp
  · simp [q_ite10]
    by_cases h1 : hd = -1
    · simp [h1]
    · simp [h1]
      by_cases h3 : so j = 2
      · simp [h3, hbox h3]
      · simp [h3]
theorem can_eqo (hk : k = 0 ∨ k = 1 ∨ k = 2 ∨ k = 3) : cMo hd k x = cXo hd k x := by
  unfold cMo cXo
  rcases hk with rfl | rfl | rfl | rfl <;> simp
end P12

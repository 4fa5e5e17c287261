section P38
variable {T j n k p i base c y z : Nat} {so m m1 m2 at_ : Nat → Int32} {acc acc1 acc2 : List Nat}
theorem on_mem {top : Nat} (hO : RoomOK T so at_) (h16 : T ≤ 16) (hb : base < T) (hs : so base ≠ 2) (hd : dwl T at_ base top acc) (h0 : acc = [] → otp T so at_ base = -1) : ∀ i, i < T → at_ i = nI base → i ∈ acc := by
  intro i hi ha
  by_cases h : acc = []
  · exact absurd ha (otp_no' hO h16 hb hs (h0 h) i hi)
  · obtain ⟨acc', d, rfl, h1, h2, -⟩ := dwl_snoc hd h
    have hz := (otp_on hO h16 h1 hb hs h2).2
    rw [hO.2.2.1 i d base hi h1 hb hz ha h2]
    exact List.mem_append_right _ (List.mem_singleton.mpr rfl)
theorem dwl_suf : ∀ {acc : List Nat} {c d : Nat}, dwl T m base c acc → d ∈ acc → ∃ acc', dwl T m base d acc' ∧ acc' ≠ [] ∧ ∀ e, e ∈ acc' → e ∈ acc := by
  intro acc
  induction acc with
  | nil => intro c d _ h; cases h
  | cons z l ih =>
    intro c d h hd
    have h0 := h
    obtain ⟨rfl, h1, p, hp, h2, h3⟩ := h
    rcases List.mem_cons.mp hd with rfl | hd
    · exact ⟨d :: l, h0, by simp, fun e he => he⟩
    · obtain ⟨acc', g1, g2, g3⟩ := ih h3 hd
      exact ⟨acc', g1, g2, fun e he => List.mem_cons_of_mem _ (g3 e he)⟩
theorem dwl_two (h16 : T ≤ 16) (hzy : z ≠ y) : ∀ {s1 s2 : List Nat} {d : Nat}, dwl T m z d s1 → dwl T m y d s2 → z ∈ s2 ∨ y ∈ s1 := by
  intro s1
  induction s1 with
  | nil =>
    intro s2 d h1 h2
    cases h1
    cases s2 with
    | nil => cases h2; exact absurd rfl hzy
    | cons q s2 => obtain ⟨rfl, -⟩ := h2; exact Or.inl (List.mem_cons_self ..)
  | cons q s1 ih =>
    intro s2 d h1 h2
    obtain ⟨rfl, a1, p, ap, a2, a3⟩ := h1
    cases s2 with
    | nil => cases h2; exact Or.inr (List.mem_cons_self ..)
    | cons r s2 =>
      obtain ⟨rfl, b1, p', bp, b2, b3⟩ := h2
      rw [a2, q_eq (by omega) (by omega)] at b2
      subst b2
      rcases ih a3 b3 with h | h
      · exact Or.inl (List.mem_cons_of_mem _ h)
      · exact Or.inr (List.mem_cons_of_mem _ h)
/-- what stands over z by a chain: so says the walk too -/
theorem dwl_sov (h16 : T ≤ 16) (hz : z < T) : ∀ {s : List Nat} {d f : Nat}, dwl T m z d s → s ≠ [] → s.length ≤ f → sov T m (nI z) f (low m d) = true := by
  intro s
  induction s with
  | nil => intro d f _ h; exact absurd rfl h
  | cons q s ih =>
    intro d f h _ hf
    obtain ⟨rfl, a1, p, ap, a2, a3⟩ := h
    rw [List.length_cons] at hf
    obtain ⟨f', rfl⟩ : ∃ f', f = f' + 1 := ⟨f - 1, by omega⟩
    have hl : low m d = p := by unfold low; rw [a2, nI_cl (by omega)]
    rw [hl]
    unfold sov
    rw [if_pos ap]
    by_cases hp : nI p = nI z
    · rw [if_pos hp]
    · rw [if_neg hp]
      have hs : s ≠ [] := by
        intro hs
        subst hs
        cases a3
        exact hp rfl
      exact ih a3 hs (by omega)
theorem cn_ins {p : Nat → Bool} {d : Nat} (hp : p d = false) : ∀ {n : Nat}, cn (fun i => decide (i = d) || p i) n = if d < n then cn p n + 1 else cn p n := by
  intro n
  induction n with
  | zero => simp [cn]
  | succ n ih =>
    unfold cn
    rw [ih]
    by_cases h1 : n = d
    · subst h1
      simp [hp]
    · by_cases h2 : p n = true
      · by_cases h3 : d < n
        · simp [h1, h2, h3, show d < n + 1 by omega]
        · simp [h1, h2, h3, show ¬ d < n + 1 by omega]
      · have h2' : p n = false := by simpa using h2
        by_cases h3 : d < n
        · simp [h1, h2', h3, show d < n + 1 by omega]
        · simp [h1, h2', h3, show ¬ d < n + 1 by omega]
theorem cn_dis {p q : Nat → Bool} : ∀ {n : Nat}, (∀ i, i < n → p i = true → q i = false) → cn p n + cn q n ≤ n := by
  intro n
  induction n with
  | zero => intro _; exact Nat.le_refl _
  | succ n ih =>
    intro h
    have h1 := ih (fun i hi => h i (by omega))
    unfold cn
    by_cases hp : p n = true
    · have hq := h n (by omega) hp
      simp only [hp, hq, if_true, Bool.false_eq_true, if_false]
      omega
    · have hp' : p n = false := by simpa using hp
      simp only [hp', Bool.false_eq_true, if_false]
      split <;> omega
theorem cn_mem {ord : Nat → Nat} (hup : ∀ i j, i < T → j < T → m i = nI j → ord j < ord i) : ∀ {acc : List Nat} {c : Nat}, dwl T m base c acc → cn (fun i => decide (i ∈ acc)) T = acc.length := by
  intro acc
  induction acc with
  | nil => intro c _; exact cn_z.mpr (fun x _ => by simp)
  | cons d l ih =>
    intro c h
    obtain ⟨rfl, h1, p, hp, h2, h3⟩ := h
    have hn : c ∉ l := by
      intro hc
      have g1 := hup c p h1 hp h2
      have g2 := ((dwl_ord hup h3).2 c hc).1
      omega
    have e1 : cn (fun i => decide (i ∈ c :: l)) T = cn (fun i => decide (i = c) || decide (i ∈ l)) T := cn_congr (fun x _ => by
      by_cases h1 : x = c <;> by_cases h2 : x ∈ l <;> simp [h1, h2])
    rw [e1, cn_ins (by simp [hn]), if_pos h1, ih h3, List.length_cons]
/-- the two stacks that are cleared -/
def STK (T : Nat) (so at_ : Nat → Int32) (z : Nat) (onB : Bool) (y : Nat) (acc1 acc2 : List Nat) : Prop :=
  (∃ t1, dwl T at_ z t1 acc1 ∧ otp T so at_ t1 = -1) ∧ (onB = false → acc2 = []) ∧ (onB = true → ∃ t2, dwl T at_ y t2 acc2 ∧ (t2 = z ∨ otp T so at_ t2 = -1) ∧ (z ∈ acc2 → z = t2))
theorem STK_dis {onB : Bool} (hO : RoomOK T so at_) (h16 : T ≤ 16) (hz : z < T) (hy : y < T) (hzy : z ≠ y) (hsov : onB = true → sov T at_ (nI z) 16 (low at_ y) = false) (h : STK T so at_ z onB y acc1 acc2) : (∀ d, d ∈ acc1 → d ∉ acc2) ∧ acc1.length + acc2.length ≤ 16 := by
  obtain ⟨⟨t1, h1, h2⟩, h3, h4⟩ := h
  obtain ⟨ord, ho, -, hup⟩ := hO.2.2.2.2.2
  have hdis : ∀ d, d ∈ acc1 → d ∉ acc2 := by
    intro d d1 d2
    cases hB : onB with
    | false => rw [h3 hB] at d2; cases d2
    | true =>
      obtain ⟨t2, g1, g2, g3⟩ := h4 hB
      obtain ⟨s1, a1, a2, a3⟩ := dwl_suf h1 d1
      obtain ⟨s2, b1, b2, b3⟩ := dwl_suf g1 d2
      rcases dwl_two h16 hzy a1 b1 with hh | hh
      · have e := g3 (b3 z hh)
        have o1 := ((dwl_ord hup h1).2 d d1).2
        have o2 := ((dwl_ord hup g1).2 d d2).1
        rw [← e] at o2
        omega
      · obtain ⟨s, c1, c2, -⟩ := dwl_suf a1 hh
        have o1 := (dwl_ord hup c1).1
        have o2 := ho y hy
        have := dwl_sov (f := 16) h16 hz c1 c2 (by omega)
        rw [hsov hB] at this
        cases this
  refine ⟨hdis, ?_⟩
  have e1 := cn_mem hup h1
  have e2 : cn (fun i => decide (i ∈ acc2)) T = acc2.length := by
    cases hB : onB with
    | false => rw [h3 hB]; exact cn_z.mpr (fun x _ => by simp)
    | true => obtain ⟨t2, g1, -⟩ := h4 hB; exact cn_mem hup g1
  have e3 := cn_dis (p := fun i => decide (i ∈ acc1)) (q := fun i => decide (i ∈ acc2)) (n := T) (fun i _ hi => by
    simp only [decide_eq_true_eq] at hi
    simp [hdis i hi])
  omega
end P38

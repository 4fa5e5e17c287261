/-- of an instruction that neither returns nor calls: it goes on, and takes no cell away -/
def rt_ok (h : rt_H) (a : rt_A) : Prop := match a with
  | none => True
  | some (.inl _) => False
  | some (.inr (.inl j)) => h.1 ≤ j.2.2.2.1
  | some (.inr (.inr _)) => False
theorem rt_ok_go {h : rt_H} {pc : Nat} {ls st : List Value} {h2 : rt_H} (hh : h.1 ≤ h2.1) : rt_ok h (rt_go pc ls st h2) := hh
theorem rt_ok_n {h : rt_H} : rt_ok h none := trivial
theorem rt_ok_ld {h : rt_H} {pc k : Nat} {ls st : List Value} : rt_ok h (rt_ld ls k pc st h) := by
  unfold rt_ld; split <;> first | exact rt_ok_go (Nat.le_refl _) | exact rt_ok_n
theorem rt_ok_ldA {h : rt_H} {pc k : Nat} {ls st : List Value} : rt_ok h (rt_ldA ls k pc st h) := by
  unfold rt_ldA; split <;> first | exact rt_ok_go (Nat.le_refl _) | exact rt_ok_n
theorem rt_ok_sv {h : rt_H} {pc k : Nat} {v : Value} {ls st : List Value} : rt_ok h (rt_sv ls k pc v st h) := by
  unfold rt_sv; split
  · split <;> first | exact rt_ok_go (Nat.le_refl _) | exact rt_ok_n
  · exact rt_ok_n
theorem rt_ok_i2 {h : rt_H} {pc : Nat} {f : Int32 → Int32 → Int32} {ls st : List Value} : rt_ok h (rt_i2 f pc ls st h) := by
  unfold rt_i2; split <;> first | exact rt_ok_go (Nat.le_refl _) | exact rt_ok_n
theorem rt_ok_l2 {h : rt_H} {pc : Nat} {f : Int64 → Int64 → Int64} {ls st : List Value} : rt_ok h (rt_l2 f pc ls st h) := by
  unfold rt_l2; split <;> first | exact rt_ok_go (Nat.le_refl _) | exact rt_ok_n
theorem rt_ok_br {h : rt_H} {pc : Nat} {b : Bool} {off : Int} {ls st : List Value} : rt_ok h (rt_br b pc off ls st h) := by
  unfold rt_br; split
  · split <;> exact rt_ok_go (Nat.le_refl _)
  · exact rt_ok_n
theorem rt_ok_sw {h : rt_H} {pc : Nat} {off : Option Int} {ls st : List Value} : rt_ok h (rt_sw pc off ls st h) := by
  unfold rt_sw; split
  · split <;> first | exact rt_ok_go (Nat.le_refl _) | exact rt_ok_n
  · exact rt_ok_n
theorem rt_ok_getf {h : rt_H} {pc o idx : Nat} {ls st : List Value} : rt_ok h (rt_getf o idx pc ls st h) := by
  unfold rt_getf; split
  · split
    · split
      · split
        · exact rt_ok_go (Nat.le_refl _)
        · exact rt_ok_go (Nat.le_refl _)
        · exact rt_ok_go (Nat.le_refl _)
        · split <;> first | exact rt_ok_go (Nat.le_refl _) | exact rt_ok_n
        · exact rt_ok_n
      · exact rt_ok_n
    · exact rt_ok_n
  · exact rt_ok_n
theorem rt_ok_putf {h : rt_H} {pc m idx : Nat} {ls st : List Value} : rt_ok h (rt_putf m idx pc ls st h) := by
  unfold rt_putf; split
  · split
    · split
      · split
        · exact rt_ok_go (Nat.le_refl _)
        · split <;> first | exact rt_ok_go (Nat.le_refl _) | exact rt_ok_n
        · exact rt_ok_go (Nat.le_refl _)
        · exact rt_ok_go (Nat.le_refl _)
        · exact rt_ok_n
      · exact rt_ok_n
    · exact rt_ok_n
  · exact rt_ok_n
theorem rt_ok_new {h : rt_H} {pc : Nat} {ls st : List Value} : rt_ok h (rt_new pc ls st h) := rt_ok_go (Nat.le_succ _)
def rt_nc : Instr → Bool
  | .invokevirtual _ => false
  | .invokestatic _ => false
  | .invokespecial _ => false
  | .return_ => false
  | .ireturn => false
  | .areturn => false
  | _ => true
set_option maxHeartbeats 4000000 in
theorem rt_ok_ins {m pc : Nat} {i : Instr} {ls st : List Value} {h : rt_H} (hi : rt_nc i = true) : rt_ok h (rt_ins m pc i ls st h) := by
  unfold rt_ins
  split
  all_goals first
    | exact absurd hi Bool.false_ne_true
    | exact rt_ok_n
    | exact rt_ok_ld
    | exact rt_ok_ldA
    | exact rt_ok_i2
    | exact rt_ok_l2
    | exact rt_ok_sw
    | exact rt_ok_getf
    | exact rt_ok_putf
    | exact rt_ok_go (Nat.le_refl _)
    | (split
       all_goals first
         | exact rt_ok_n
         | exact rt_ok_sv
         | exact rt_ok_br
         | exact rt_ok_sw
         | exact rt_ok_go (Nat.le_refl _)
         | (split
            all_goals first
              | exact rt_ok_n
              | exact rt_ok_new
              | exact rt_ok_sw
              | exact rt_ok_go (Nat.le_refl _)
              | (split
                 all_goals first
                   | exact rt_ok_n
                   | exact rt_ok_go (Nat.le_refl _))))
def rt_okc (h : rt_H) (a : rt_A) : Prop := match a with
  | none => True
  | some (.inl _) => False
  | some (.inr (.inl j)) => h.1 ≤ j.2.2.2.1
  | some (.inr (.inr _)) => True
theorem rt_okc_cl0 {h : rt_H} {m m2 : Nat} {st : List Value} : rt_okc h (rt_cl0 m m2 st) := by
  unfold rt_cl0
  split
  · exact trivial
  · exact trivial
theorem rt_okc_n {h : rt_H} : rt_okc h none := trivial
theorem rt_okc_go {h : rt_H} {pc : Nat} {ls st : List Value} {h2 : rt_H} (hh : h.1 ≤ h2.1) : rt_okc h (rt_go pc ls st h2) := hh
theorem rt_ok_call {k m pc idx : Nat} {ls st : List Value} {h : rt_H} : rt_okc h (rt_call k m pc idx ls st h) := by
  unfold rt_call
  split
  · split
    · unfold rt_cV
      split
      · split
        · exact rt_okc_cl0
        · exact rt_okc_n
      · exact rt_okc_n
    · exact rt_okc_cl0
    · split
      · exact rt_okc_cl0
      · exact rt_okc_n
    · split
      · exact rt_okc_cl0
      · exact rt_okc_n
    · split
      · split
        · exact rt_okc_go (Nat.le_refl _)
        · exact rt_okc_n
      · exact rt_okc_n
    · split
      · split
        · exact rt_okc_go (Nat.le_refl _)
        · exact rt_okc_n
      · exact rt_okc_n
    · split
      · split
        · exact rt_okc_go (Nat.le_refl _)
        · exact rt_okc_n
      · exact rt_okc_n
    · split
      · split
        · exact rt_okc_go (Nat.le_refl _)
        · exact rt_okc_n
      · exact rt_okc_n
    · exact rt_okc_n
  · exact rt_okc_n
theorem rt_nc_cases {i : Instr} (h : rt_nc i = false) : (∃ idx, i = .invokevirtual idx) ∨ (∃ idx, i = .invokestatic idx) ∨ (∃ idx, i = .invokespecial idx) ∨ i = .return_ ∨ i = .ireturn ∨ i = .areturn := by
  cases i <;> first
    | exact absurd h.symm Bool.false_ne_true
    | exact Or.inl ⟨_, rfl⟩
    | exact Or.inr (Or.inl ⟨_, rfl⟩)
    | exact Or.inr (Or.inr (Or.inl ⟨_, rfl⟩))
    | exact Or.inr (Or.inr (Or.inr (Or.inl rfl)))
    | exact Or.inr (Or.inr (Or.inr (Or.inr (Or.inl rfl))))
    | exact Or.inr (Or.inr (Or.inr (Or.inr (Or.inr rfl))))
/-- which instruction it was, by what came of it -/
theorem rt_act_inv {m pc : Nat} {ls st : List Value} {h : rt_H} {a : rt_Res ⊕ rt_J ⊕ (Nat × List Value × List Value)} (hr : rt_act m pc ls st h = some a) :
    ∃ (i : Instr) (len : Nat), decode (rt_code m) pc = .ok (i, len) ∧ (rt_wl i = 0 ∨ len = rt_wl i) ∧ rt_ins m pc i ls st h = some a := by
  unfold rt_act at hr
  split at hr
  · rename_i i len hd
    split at hr
    · rename_i hw
      exact ⟨i, len, hd, hw, hr⟩
    · cases hr
  · cases hr
theorem rt_act_go {m pc pc2 : Nat} {ls st ls2 st2 : List Value} {h h2 : rt_H} (hr : rt_act m pc ls st h = some (.inr (.inl (pc2, ls2, st2, h2)))) : h.1 ≤ h2.1 := by
  obtain ⟨i, len, hd, hw, hi⟩ := rt_act_inv hr
  cases hc : rt_nc i with
  | true =>
    have h1 := rt_ok_ins (m := m) (pc := pc) (ls := ls) (st := st) (h := h) hc
    rw [hi] at h1
    exact h1
  | false =>
    rcases rt_nc_cases hc with ⟨idx, rfl⟩ | ⟨idx, rfl⟩ | ⟨idx, rfl⟩ | rfl | rfl | rfl
    · have h1 := rt_ok_call (k := 0) (m := m) (pc := pc) (idx := idx) (ls := ls) (st := st) (h := h)
      rw [show rt_call 0 m pc idx ls st h = _ from hi] at h1
      exact h1
    · have h1 := rt_ok_call (k := 1) (m := m) (pc := pc) (idx := idx) (ls := ls) (st := st) (h := h)
      rw [show rt_call 1 m pc idx ls st h = _ from hi] at h1
      exact h1
    · have h1 := rt_ok_call (k := 2) (m := m) (pc := pc) (idx := idx) (ls := ls) (st := st) (h := h)
      rw [show rt_call 2 m pc idx ls st h = _ from hi] at h1
      exact h1
    all_goals
      simp only [rt_ins] at hi
      split at hi
      · split at hi <;> cases hi
      · cases hi
theorem rt_act_ret {m pc : Nat} {ls st : List Value} {h : rt_H} {r : rt_Res} (hr : rt_act m pc ls st h = some (.inl r)) :
    (decode (rt_code m) pc = .ok (.return_, 1) ∧ rt_ret m = none ∧ st = [] ∧ r = (none, h)) ∨
    (∃ x, decode (rt_code m) pc = .ok (.ireturn, 1) ∧ (rt_ret m = some .int ∨ (rt_ret m = some .boolean ∧ rt_bo x = true)) ∧ st = [.int x] ∧ r = (some (.int x), h)) ∨
    (∃ x, decode (rt_code m) pc = .ok (.areturn, 1) ∧ rt_ret m = some (.object "RoomTalk$Phrase") ∧ st = [.ref x] ∧ r = (some (.ref x), h)) := by
  obtain ⟨i, len, hd, hw, hi⟩ := rt_act_inv hr
  cases hc : rt_nc i with
  | true =>
    have h1 := rt_ok_ins (m := m) (pc := pc) (ls := ls) (st := st) (h := h) hc
    rw [hi] at h1
    exact False.elim h1
  | false =>
    rcases rt_nc_cases hc with ⟨idx, rfl⟩ | ⟨idx, rfl⟩ | ⟨idx, rfl⟩ | rfl | rfl | rfl
    · have h1 := rt_ok_call (k := 0) (m := m) (pc := pc) (idx := idx) (ls := ls) (st := st) (h := h)
      rw [show rt_call 0 m pc idx ls st h = _ from hi] at h1
      exact False.elim h1
    · have h1 := rt_ok_call (k := 1) (m := m) (pc := pc) (idx := idx) (ls := ls) (st := st) (h := h)
      rw [show rt_call 1 m pc idx ls st h = _ from hi] at h1
      exact False.elim h1
    · have h1 := rt_ok_call (k := 2) (m := m) (pc := pc) (idx := idx) (ls := ls) (st := st) (h := h)
      rw [show rt_call 2 m pc idx ls st h = _ from hi] at h1
      exact False.elim h1
    · obtain rfl := rt_wl_of hw 0 rfl
      simp only [rt_ins] at hi
      split at hi
      · rename_i hret
        split at hi
        · cases hi
          exact Or.inl ⟨hd, hret, rfl, rfl⟩
        · cases hi
      · cases hi
    · obtain rfl := rt_wl_of hw 0 rfl
      simp only [rt_ins] at hi
      split at hi
      · rename_i x
        split at hi
        · rename_i hret
          cases hi
          exact Or.inr (Or.inl ⟨x, hd, hret, rfl, rfl⟩)
        · cases hi
      · cases hi
    · obtain rfl := rt_wl_of hw 0 rfl
      simp only [rt_ins] at hi
      split at hi
      · rename_i x
        split at hi
        · rename_i hret
          cases hi
          exact Or.inr (Or.inr ⟨x, hd, hret, rfl, rfl⟩)
        · cases hi
      · cases hi
theorem rt_run_n : ∀ (f m pc : Nat) (ls st : List Value) (h : rt_H) (v : Option Value) (h2 : rt_H), rt_run f m pc ls st h = some (v, h2) → h.1 ≤ h2.1 := by
  intro f
  induction f with
  | zero => intro m pc ls st h v h2 e; exact absurd e (by simp [rt_run])
  | succ f ih =>
    intro m pc ls st h v h2 e
    rw [rt_run] at e
    split at e
    · cases e
    · rename_i r hq
      cases e
      rcases rt_act_ret hq with ⟨_, _, _, e⟩ | ⟨_, _, _, _, e⟩ | ⟨_, _, _, _, e⟩ <;> (cases e; exact Nat.le_refl _)
    · rename_i hq
      exact Nat.le_trans (rt_act_go hq) (ih _ _ _ _ _ _ _ e)
    · split at e
      · rename_i hq
        exact Nat.le_trans (ih _ _ _ _ _ _ _ hq) (ih _ _ _ _ _ _ _ e)
      · cases e

section RTZ
variable {b0 : Nat} {sA : Nat → Nat} {Zs : State → Prop}
theorem rt_w_ret {p : Program} {l : Launch} {e : Env} {R : Room} {s : State} {mid : MethodId} {args : Array Value} {below : List Frame} {meth : Method} {c : Code} {D : va_G} {cs : Nat → ClassId} {n0 ne m pc : Nat} {ls st : List Value} {h h2 : rt_H} {v : Option Value}
    (C : rt_Cx p R s mid args meth c D cs b0 n0 ne m) (hr : rt_act m pc ls st h = some (.inl (v, h2))) :
    rt_W p l e R s mid args below meth c (MQ below (rt_Q D cs b0 sA v h2) args s (h2.1 - n0) (rt_sl h2.1 - rt_sl n0) (fun q => b0 ≤ q)) D cs b0 sA n0 m pc ls st h := by
  obtain ⟨hx, hb, hml, hown, hts, hret, hlk, hnm, hs0, hK, hN, hR⟩ := C
  rcases rt_act_ret hr with ⟨hd, ht, rfl, he⟩ | ⟨x, hd, ht, rfl, he⟩ | ⟨x, hd, ht, rfl, he⟩
  · cases he
    intro hn H locs ca hP hS hl ho
    exact W.vret hx hb (hret.trans ht) (fun t ht hW => ⟨⟨rfl, by rw [ht]; exact hP⟩, hS.F ht⟩) hS.2.2 hd hlk
  · cases he
    intro hn H locs ca hP hS hl ho
    rcases ht with ht | ⟨ht, hbo⟩
    · exact W.zret (ty := .int) hx hb (hret.trans ht) rfl (fun t ht hW => ⟨⟨rfl, by rw [ht]; exact hP⟩, hS.F ht⟩) hS.2.2 hd hlk
    · exact W.zret (ty := .boolean) hx hb (hret.trans ht) (rt_bo2 hbo).1 (fun t ht hW => ⟨⟨rfl, by rw [ht]; exact hP⟩, hS.F ht⟩) hS.2.2 hd hlk
  · cases he
    intro hn H locs ca hP hS hl ho
    exact W.aret hx hb (hret.trans ht) (Or.inl ⟨_, rfl⟩) (Or.inr ⟨_, rfl⟩) (fun t ht hW => ⟨⟨rfl, by rw [ht]; exact hP⟩, hS.F ht⟩) hS.2.2 hd hlk
theorem rt_act_m2 {m pc m2 : Nat} {ls st as rr : List Value} {h : rt_H} (hr : rt_act m pc ls st h = some (.inr (.inr (m2, as, rr)))) : m2 < 246 ∧ as.all rt_o1 = true ∧ as.length ≤ rt_ml m2 := by
  have key : ∀ (m3 : Nat) (st : List Value), rt_cl0 m m3 st = some (.inr (.inr (m2, as, rr))) → m3 < 246 → m2 < 246 ∧ as.all rt_o1 = true ∧ as.length ≤ rt_ml m2 := by
    intro m3 st hq hm3
    obtain ⟨rfl, -, a1, a2, a3, -, -, -⟩ := rt_cl0_inv hq
    exact ⟨hm3, a2, by omega⟩
  obtain ⟨i, len, hd, hw, hi⟩ := rt_act_inv hr
  cases hc : rt_nc i with
  | true =>
    have h1 := rt_ok_ins (m := m) (pc := pc) (ls := ls) (st := st) (h := h) hc
    rw [hi] at h1
    exact False.elim h1
  | false =>
    have kc : ∀ k idx, rt_call k m pc idx ls st h = some (.inr (.inr (m2, as, rr))) → m2 < 246 ∧ as.all rt_o1 = true ∧ as.length ≤ rt_ml m2 := by
      intro k idx hq
      unfold rt_call at hq
      split at hq
      · rename_i x1 x2 how m3 xs hf
        obtain ⟨x5, x6, x7, x8⟩ := xs
        obtain ⟨-, -, e3⟩ := rt_caAt hf
        split at hq
        · unfold rt_cV at hq
          simp only [rt_cac, Bool.and_eq_true, decide_eq_true_eq] at e3
          split at hq
          · split at hq
            · exact key _ _ hq e3.1.1.1.1
            · cases hq
          · cases hq
        · simp only [rt_cac, Bool.and_eq_true, decide_eq_true_eq] at e3
          exact key _ _ hq e3.1.1.1
        · simp only [rt_cac, Bool.and_eq_true, decide_eq_true_eq] at e3
          split at hq
          · exact key _ _ hq e3.1.1.1.1.1
          · cases hq
        · simp only [rt_cac, Bool.and_eq_true, decide_eq_true_eq] at e3
          split at hq
          · exact key _ _ hq e3.1.1.1.1.1
          · cases hq
        all_goals first
          | (cases hq; done)
          | (split at hq
             · split at hq <;> (cases hq; done)
             · (cases hq; done))
      · cases hq
    rcases rt_nc_cases hc with ⟨idx, rfl⟩ | ⟨idx, rfl⟩ | ⟨idx, rfl⟩ | rfl | rfl | rfl
    · exact kc 0 _ hi
    · exact kc 1 _ hi
    · exact kc 2 _ hi
    all_goals
      simp only [rt_ins] at hi
      split at hi
      · split at hi <;> cases hi
      · cases hi
/-- THE WALK: a run of the small machine is walked by the machine -/
theorem rt_walk (hZ : rt_Zok b0 sA Zs) (l : Launch) (D : va_G) (cs : Nat → ClassId) : ∀ (f m pc : Nat) (ls st : List Value) (h : rt_H) (v : Option Value) (h2 : rt_H), rt_run f m pc ls st h = some (v, h2) → m < 246 →
    ∀ (p : Program) (e : Env) (R : Room) (s : State) (mid : MethodId) (args : Array Value) (below : List Frame) (meth : Method) (c : Code) (n0 : Nat), rt_Cx p R s mid args meth c D cs b0 n0 h2.1 m → Zs s →
      rt_W p l e R s mid args below meth c (MQ below (rt_Q D cs b0 sA v h2) args s (h2.1 - n0) (rt_sl h2.1 - rt_sl n0) (fun q => b0 ≤ q)) D cs b0 sA n0 m pc ls st h := by
  intro f
  induction f with
  | zero => intro m pc ls st h v h2 hr; exact absurd hr (by simp [rt_run])
  | succ f ih =>
    intro m pc ls st h v h2 hr hm p e R s mid args below meth c n0 C hz
    rw [rt_run] at hr
    split at hr
    · cases hr
    · rename_i r hq
      cases hr
      exact rt_w_ret C hq
    · rename_i hq
      exact rt_w_go C hZ hz (rt_run_n _ _ _ _ _ _ _ _ hr) hq (ih _ _ _ _ _ _ _ hr hm p e R s mid args below meth c n0 C hz)
    · rename_i hq
      obtain ⟨hm2, hal, hle⟩ := rt_act_m2 hq
      split at hr
      · rename_i w h3 hq2
        exact rt_w_tbl C hZ hz hq (rt_met_of hm2 hal hle (fun p e R s mid args below meth c C hz => ih _ _ _ _ _ _ _ hq2 hm2 p e R s mid args below meth c _ C hz)) (rt_run_n _ _ _ _ _ _ _ _ hq2) (rt_run_n _ _ _ _ _ _ _ _ hr) (ih _ _ _ _ _ _ _ hr hm p e R s mid args below meth c n0 C hz)
      · cases hr
/-- what the small machine answers of a method, the machine answers -/
theorem rt_sound (hZ : rt_Zok b0 sA Zs) (l : Launch) (D : va_G) (cs : Nat → ClassId) {m : Nat} {as : List Value} {h h2 : rt_H} {v : Option Value} (hm : m < 246) (hal : as.all rt_o1 = true) (hle : as.length ≤ rt_ml m) (hr : Ev m 0 (rt_ini m as) [] h = some (v, h2)) : rt_Met l D cs b0 sA Zs m as h v h2 := by
  obtain ⟨f, hf⟩ := Ev_iff.mp hr
  exact rt_met_of hm hal hle (fun p e R s mid args below meth c C hz => rt_walk hZ l D cs f m 0 _ _ h v h2 hf hm p e R s mid args below meth c _ C hz)
end RTZ

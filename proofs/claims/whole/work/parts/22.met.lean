def rt_css (e : Nat × Nat × Nat × Nat × Nat × Nat × Nat × Nat) : Bool := if e.2.2.1 = 1 then (rt_mt e.2.2.2.1).2.2.2.2.2.2.1 == 1 else if e.2.2.1 < 4 then ((rt_mt e.2.2.2.1).2.2.2.2.2.2.1 == 0) else true
set_option maxRecDepth 20000 in
theorem rt_cSt : rt_caL.all rt_css = true := by decide +kernel
theorem rt_cSAt {o idx : Nat} {q : Nat × Nat × Nat × Nat × Nat × Nat × Nat × Nat} (e : rt_ca o idx = some q) : rt_css q = true := List.all_eq_true.mp rt_cSt _ (List.mem_of_find?_eq_some e)
theorem rt_kdT : rt_kdL.all (fun q => q.1 != 0 || decide (q.2 < 11)) = true := by decide +kernel
theorem rt_kd_lt {i ci : Nat} (h : rt_kd i = (0, ci)) : ci < 11 := by
  unfold rt_kd at h
  split at h
  · rw [List.getD_eq_getElem?_getD] at h
    cases hq : rt_kdL[i]? with
    | none => rw [hq] at h; cases h
    | some q =>
      rw [hq] at h
      have h1 := List.all_eq_true.mp rt_kdT q (List.mem_of_getElem? hq)
      have h2 : q = (0, ci) := h
      rw [h2] at h1
      simpa using h1
  · split at h <;> cases h
    decide
def rt_Q (D : va_G) (cs : Nat → ClassId) (b0 : Nat) (sA : Nat → Nat) (v : Option Value) (h2 : rt_H) : Array Value → State → Outcome → State → Prop := fun _ st oc t => (oc = .returned (v.map (rt_cv b0 sA)) ∧ va_P D vwCl (rt_wd b0 cs h2) t.heap) ∧ va_F (fun q => b0 ≤ q) st t
def rt_Pc (D : va_G) (cs : Nat → ClassId) (b0 : Nat) (sA : Nat → Nat) (Zs : State → Prop) (as : List Value) (h : rt_H) : Array Value → State → Prop := va_Pc (as.map (rt_cv b0 sA)) (fun U => U.heap.size = b0 + h.1 ∧ va_P D vwCl (rt_wd b0 cs h) U.heap ∧ va_K D vwCl (rt_tys cs) U ∧ rt_Nx U ∧ Zs U)
def rt_ws (m : Nat) : List Cond := Cond.code (rt_nm m) (rt_code m) (rt_ml m) (rt_ret m) :: rt_tt
/-- a run of the small machine, as a contract of the machine -/
def rt_Met (l : Launch) (D : va_G) (cs : Nat → ClassId) (b0 : Nat) (sA : Nat → Nat) (Zs : State → Prop) (m : Nat) (as : List Value) (h : rt_H) (v : Option Value) (h2 : rt_H) : Prop :=
  Met l (rt_nm m) (rt_ws m) (rt_rm m h.1 h2.1) (rt_Pc D cs b0 sA Zs as h) (rt_Q D cs b0 sA v h2) (h2.1 - h.1) (rt_sl h2.1 - rt_sl h.1) (fun q => b0 ≤ q)
theorem rt_slen {b0 : Nat} {sA : Nat → Nat} : ∀ (as : List Value), as.all rt_o1 = true → (lg_sl (as.map (rt_cv b0 sA))).length = as.length
  | [], _ => rfl
  | v :: as, h => by
    rw [List.all_cons, Bool.and_eq_true] at h
    have h1 := rt_slen (b0 := b0) (sA := sA) as h.2
    have h2 : ¬ (rt_cv b0 sA v).category = 2 := by rw [rt_o1cat h.1]; decide
    unfold lg_sl at h1 ⊢
    rw [List.map_cons, List.flatMap_cons, List.length_append, h1, if_neg h2]
    simp [Nat.add_comm]
theorem rt_args {b0 : Nat} {sA : Nat → Nat} : ∀ (as : List Value) (i j : Nat) (v : Value), as.all rt_o1 = true → as[j]? = some v → (i + j, rt_cv b0 sA v) ∈ lv_args i (as.map (rt_cv b0 sA))
  | [], i, j, v, _, h => by simp at h
  | w :: as, i, j, v, ho, h => by
    rw [List.all_cons, Bool.and_eq_true] at ho
    have h2 : ¬ (rt_cv b0 sA w).category = 2 := by rw [rt_o1cat ho.1]; decide
    rw [List.map_cons]
    unfold lv_args
    rw [if_neg h2]
    cases j with
    | zero =>
      simp at h
      subst h
      exact List.mem_cons_self
    | succ j =>
      rw [List.getElem?_cons_succ] at h
      have h3 := rt_args (b0 := b0) (sA := sA) as (i + 1) j v ho.2 h
      rw [show i + (j + 1) = i + 1 + j by omega]
      exact List.mem_cons_of_mem _ h3
theorem rt_ini_at {m : Nat} {as : List Value} {i : Nat} {v : Value} (h : (rt_ini m as)[i]? = some v) (hv : rt_pl v = true) : as[i]? = some v := by
  unfold rt_ini at h
  by_cases hi : i < as.length
  · rw [List.getElem?_append_left hi] at h
    exact h
  · rw [List.getElem?_append_right (by omega)] at h
    have := List.eq_of_mem_replicate (List.mem_of_getElem? h)
    subst this
    cases hv
theorem rt_good {w : Cond} (h : w ∈ rt_tt) : (w.onTables && w.keeps) = true ∨ ∃ ty, w = .arrayClass ty := good_of_word (List.mem_filter.mp h).2
theorem rt_gin {m : Nat} (hm : m < 246) : GoodIn rt_tt (rt_ws m) := by
  intro w hw
  unfold rt_ws at hw
  rcases List.mem_cons.mp hw with rfl | hw
  · exact ⟨(rt_mtAt hm).1, rt_good (rt_mtAt hm).1⟩
  · exact ⟨hw, rt_good hw⟩
theorem rt_met_of {l : Launch} {D : va_G} {cs : Nat → ClassId} {b0 : Nat} {sA : Nat → Nat} {Zs : State → Prop} {m : Nat} {as : List Value} {h h2 : rt_H} {v : Option Value} (hm : m < 246) (hal : as.all rt_o1 = true) (hle : as.length ≤ rt_ml m)
    (body : ∀ (p : Program) (e : Env) (R : Room) (s : State) (mid : MethodId) (args : Array Value) (below : List Frame) (meth : Method) (c : Code), rt_Cx p R s mid args meth c D cs b0 h.1 h2.1 m → Zs s →
      rt_W p l e R s mid args below meth c (MQ below (rt_Q D cs b0 sA v h2) args s (h2.1 - h.1) (rt_sl h2.1 - rt_sl h.1) (fun q => b0 ≤ q)) D cs b0 sA h.1 m 0 (rt_ini m as) [] h) :
    rt_Met l D cs b0 sA Zs m as h v h2 := by
  have hmt := rt_mtAt hm
  refine va_MetF (cc := rt_code m) (maxL := rt_ml m) (ret := rt_ret m) hmt.2.2.1 rfl ?_
  intro p e s mid args below meth c s₁ B hml hv
  obtain ⟨rfl, hsz, hP, hK, hN, hz⟩ := hv
  have hts := atoms_spec (ws := rt_ws m) B.pre
  have C : rt_Cx p (headSpec (rt_ws m) (rt_rm m h.1 h2.1)).room s mid (as.map (rt_cv b0 sA)).toArray meth c D cs b0 h.1 h2.1 m :=
    ⟨B.exec, B.bytes, hml, by rw [← hmt.2.1]; exact findClass_of_methodNamed B.named, fun w hw => hts w (List.mem_cons_of_mem _ hw), B.returns, B.notSynchronized, (name_of_methodNamed B.named B.method).1, hsz, hK, hN, rfl⟩
  have hl := lv_entry (as.map (rt_cv b0 sA)) (n := rt_ml m) (by rw [rt_slen as hal]; exact hle)
  rw [lg_entry_eq]
  have k := body p e _ s mid _ below meth c C hz (Nat.le_refl _) s.heap [] _ hP va_S.rf (rt_has_mono hl (fun q hq => by
    obtain ⟨w, h1, h3, h4⟩ := rt_lv_mem.mp hq
    have h5 := rt_args (b0 := b0) (sA := sA) as 0 q.1 w hal (rt_ini_at h1 h3)
    obtain ⟨i, z⟩ := q
    dsimp only at h4 h5
    subst h4
    rw [Nat.zero_add] at h5
    exact h5)) ⟨by unfold rt_ini; rw [List.length_append, List.length_replicate]; omega, fun j x hj => by
      have h5 := List.all_eq_true.mp hal _ (List.mem_of_getElem? (rt_ini_at hj rfl))
      cases h5⟩
  rw [Nat.sub_self, Nat.sub_self] at k
  exact k
section RTC
variable {p : Program} {l : Launch} {e : Env} {R : Room} {s : State} {mid : MethodId} {args : Array Value} {below : List Frame} {meth : Method} {c : Code} {Q : State → Prop} {D : va_G} {cs : Nat → ClassId} {b0 : Nat} {sA : Nat → Nat} {n0 ne m pc : Nat} {ls st : List Value} {h h2 : rt_H} {Zs : State → Prop} {v : Option Value}
/-- behind a call -/
theorem rt_after {H : Heap} {locs : List Loc} {cells slots mc ms : Nat} {ca : Array Slot} {st0 rest : List Value} {a : Array Value} (hr : va_Run p l e R s mid args below meth c H locs cells slots mc ms (F0 mid pc ca st0) rest (rt_Q D cs b0 sA v h2 a) (fun q => b0 ≤ q)) (hS : va_S (fun q => b0 ≤ q) s.heap H locs)
    (kk : ∀ (H1 : Heap) (locs1 : List Loc), va_P D vwCl (rt_wd b0 cs h2) H1 → va_S (fun q => b0 ≤ q) s.heap H1 locs1 → W p l e R s mid args below meth c H1 locs1 (cells + mc) (slots + ms) Q (F0 mid (pc + 3) ca ((v.map (rt_cv b0 sA)).toList ++ rest))) : W p l e R s mid args below meth c H locs cells slots Q (F0 mid pc ca st0) := by
  intro T hT X
  obtain ⟨w, st₀, t, T', L, h0, X', hL, e1, e2, ⟨⟨hv, hb⟩, hz, hk⟩, st'⟩ := hr T hT X
  cases hv
  rw [h0] at hz hk
  obtain ⟨t2, a1, b1⟩ := kk T'.heap (locs ++ L) (by rw [e1]; exact hb)
    ⟨Nat.le_trans hS.1 (by rw [e1]; exact hz), fun q h1 h2 => by rw [e1, hk q (Nat.lt_of_lt_of_le h1 hS.1) h2]; exact hS.2.1 q h1 h2, fun q hq => by
      rcases List.mem_append.mp hq with h | h
      · exact hS.2.2 q h
      · exact hL q h⟩ T' rfl X'
  exact ⟨t2, st' t2 a1, b1⟩
theorem rt_size {H : Heap} {locs : List Loc} (hs : s.heap.size = b0 + n0) (hn : n0 ≤ h.1) (hP : va_P D vwCl (rt_wd b0 cs h) H) (hS : va_S (fun q => b0 ≤ q) s.heap H locs) (hz : H.size ≤ s.heap.size + (h.1 - n0)) : H.size = b0 + h.1 := by
  have h1 := hS.1
  by_cases h0 : h.1 = 0
  · omega
  · have h3 := (hP (h.1 - 1) _ (rt_wd_at (by omega))).lt
    dsimp only at h3
    omega
theorem rt_Nx_same {U U2 : State} (hv : U.vm = U2.vm) (hN : rt_Nx U) : rt_Nx U2 := by
  refine ⟨fun w hw => ?_, va_AO.moved (by rw [hv]; exact Vm.Alike.refl _) hN.2⟩
  have h1 := hN.1 w hw
  have h2 := (List.mem_filter.mp hw).2
  cases w <;> first | exact va_Nw.same rfl hv h1 | cases h2
theorem rt_Nx_warm {U : State} (hW : s.WarmedH U.vm) (hN : rt_Nx s) : rt_Nx U := by
  refine ⟨fun w hw => ?_, va_AO.moved hW.alike hN.2⟩
  have h1 := hN.1 w hw
  have h2 := (List.mem_filter.mp hw).2
  cases w <;> first | exact va_Nw.warmF hW h1 | exact va_Nw.warmM hW h1 | cases h2
theorem rt_blind (hZ : rt_Zok b0 sA Zs) {as : List Value} : FrameBlind (rt_Pc D cs b0 sA Zs as h) := by
  intro a U g mk q
  obtain ⟨q0, q1, q2, q3, q4, q5⟩ := q
  exact ⟨q0, q1, q2, va_K.moved (u := U) (U := U.calling g mk a) (Vm.Alike.refl U.vm) q3, rt_Nx_same (U := U) (U2 := U.calling g mk a) rfl q4, hZ.2.1 U g mk a q5⟩
theorem rt_pre (C : rt_Cx p R s mid args meth c D cs b0 n0 ne m) (hZ : rt_Zok b0 sA Zs) (hz : Zs s) {H : Heap} {locs : List Loc} (hP : va_P D vwCl (rt_wd b0 cs h) H) (hS : va_S (fun q => b0 ≤ q) s.heap H locs) (hsz : H.size = b0 + h.1) {as : List Value} :
    ∀ U : State, U.heap = H → s.WarmedH U.vm → rt_Pc D cs b0 sA Zs as h (as.map (rt_cv b0 sA)).toArray U := by
  obtain ⟨hx, hb, hml, hown, hts, hret, hlk, hnm, hs0, hK, hN, hR⟩ := C
  intro U hU hW
  refine ⟨rfl, by rw [hU]; exact hsz, by rw [hU]; exact hP, va_K.moved hW.alike hK, rt_Nx_warm hW hN, hZ.1 s U hz hW (fun q hq => ?_)⟩
  rw [hU]
  exact hS.2.1 q (by omega) (by show ¬ b0 ≤ q; omega)
end RTC

/-! THE LAW: rows of its body over the small machine's world -/
def lw_C (p : Program) (s : State) (mid : MethodId) (meth : Method) (c : Code) (b Ls : Nat) (xs : Nat → Int32) (D : va_G) (cs : Nat → ClassId) (Zs : State → Prop) : Prop := lw_At p s mid meth c b Ls xs ∧ va_K D vwCl (rt_tys cs) s ∧ rt_Nx s ∧ Zs s
abbrev lw_W (p : Program) (l : Launch) (e : Env) (s : State) (mid : MethodId) (b : Nat) (below : List Frame) (meth : Method) (c : Code) (H : Heap) (locs : List Loc) (h : rt_H) (g : JFrame) : Prop := W p l e room_1 s mid #[Value.ref b] below meth c H locs h.1 (rt_sl h.1) (lw_Z below #[Value.ref b] s) g
def rt_isI : Value → Bool
  | .int _ => true
  | _ => false
/-- class and reference, called one behind the other, answer alike and keep INV -/
def lw_pair (INV : rt_H → Prop) (mx mm : Nat) (as : List Value) : Prop := ∀ h, INV h → ∃ (v : Int32) (h1 h2 : rt_H), Ev mx 0 (rt_ini mx (.ref 0 :: as)) [] h = some (some (.int v), h1) ∧ Ev mm 0 (rt_ini mm (.ref 33 :: as)) [] h1 = some (some (.int v), h2) ∧ INV h2
theorem Ev_n {m pc : Nat} {ls st : List Value} {h h2 : rt_H} {v : Option Value} (hr : Ev m pc ls st h = some (v, h2)) : h.1 ≤ h2.1 := by
  obtain ⟨f, hf⟩ := Ev_iff.mp hr
  exact rt_run_n _ _ _ _ _ _ _ _ hf
theorem rt_sl111 : rt_sl 111 ≤ 7302250 := by decide +kernel
theorem lw_ob0 {n : Nat} (h : 71 ≤ n) : rt_ob n 0 (rt_own mX9_thing) = true := by
  unfold rt_ob
  rw [decide_eq_true (by omega)]
  rfl
theorem lw_ob33 {n : Nat} (h : 71 ≤ n) : rt_ob n 33 10 = true := by
  unfold rt_ob
  rw [decide_eq_true (by omega)]
  rfl
theorem lw_in {i Ls k : Nat} (hk : k < 6) (hi : i + 6 ≤ Ls) (hL : Ls ≤ 3072) : vp_in (nI i + nI k) Ls := by
  rw [nI_add]
  exact vp_in_nI (by omega) (by omega)
theorem lw_xs {xs : Nat → Int32} {i Ls k : Nat} (hk : k < 6) (hi : i + 6 ≤ Ls) (hL : Ls ≤ 3072) : xs (nI i + nI k).toNatClampNeg = xs (i + k) := by
  rw [nI_add, nI_clamp (by omega)]
/-- the words of a virtual call out of the law -/
def lw_V (idx m2 : Nat) : Prop := m2 < 246 ∧ Cond.methodLink R_law idx (rt_nm m2) ∈ rt_tt ∧ Cond.instanceMethod (rt_nm m2) ∈ rt_tt ∧ Cond.selects (rt_nm m2).cls (rt_nm m2) (rt_nm m2) ∈ rt_tt ∧ Cond.initialized (rt_nm m2).cls ∈ rt_tt ∧ (rt_mt m2).2.2.2.2.2.2.1 = 0
theorem lw_vt {idx m2 : Nat} (hm : m2 < 246) (p1 p2 p3 p4 : Nat) (h1 : lw_tbl[p1]? = some (.methodLink R_law idx (rt_nm m2))) (h2 : lw_tbl[p2]? = some (.instanceMethod (rt_nm m2))) (h3 : lw_tbl[p3]? = some (.selects (rt_nm m2).cls (rt_nm m2) (rt_nm m2))) (h4 : lw_tbl[p4]? = some (.initialized (rt_nm m2).cls)) (h5 : (rt_mt m2).2.2.2.2.2.2.1 = 0) : lw_V idx m2 :=
  ⟨hm, rt_inAt h1 rfl, rt_inAt h2 rfl, rt_inAt h3 rfl, rt_inAt h4 rfl, h5⟩
section LW
variable {p : Program} {l : Launch} {e : Env} {s : State} {mid : MethodId} {below : List Frame} {meth : Method} {c : Code} {b Ls : Nat} {xs : Nat → Int32} {D : va_G} {cs : Nat → ClassId} {sA : Nat → Nat} {Zs : State → Prop} {h h2 : rt_H} {H : Heap} {locs : List Loc} {ca : Array Slot} {pc idx m2 i : Nat} {as rest : List Value}
theorem lw_size (hP : va_P D vwCl (rt_wd s.heap.size cs h) H) (hS : va_S (fun q => s.heap.size ≤ q) s.heap H locs) (hz : H.size ≤ s.heap.size + h.1) : H.size = s.heap.size + h.1 :=
  rt_size (n0 := 0) (s := s) (b0 := s.heap.size) rfl (Nat.zero_le _) hP hS (by rw [Nat.sub_zero]; exact hz)
theorem lw_pre (C : lw_C p s mid meth c b Ls xs D cs Zs) (hZ : rt_Zok s.heap.size sA Zs) (hP : va_P D vwCl (rt_wd s.heap.size cs h) H) (hS : va_S (fun q => s.heap.size ≤ q) s.heap H locs) (hsz : H.size = s.heap.size + h.1) {as : List Value} :
    ∀ U : State, U.heap = H → s.WarmedH U.vm → rt_Pc D cs s.heap.size sA Zs as h (as.map (rt_cv s.heap.size sA)).toArray U := by
  obtain ⟨-, hK, hN, hz⟩ := C
  intro U hU hW
  refine ⟨rfl, by rw [hU]; exact hsz, by rw [hU]; exact hP, va_K.moved hW.alike hK, rt_Nx_warm hW hN, hZ.1 s U hz hW (fun q hq => ?_)⟩
  rw [hU]
  exact hS.2.1 q hq (Nat.not_le.mpr hq)
theorem lw_hts (C : lw_C p s mid meth c b Ls xs D cs Zs) : ∀ w ∈ rt_tt, w.before #[Value.ref b] s = true := fun w hw => C.1.2.2.2.2.2.1 w (List.mem_filter.mp hw).1
theorem lw_callV {v : Int32} (C : lw_C p s mid meth c b Ls xs D cs Zs) (hZ : rt_Zok s.heap.size sA Zs) (hd : decode code pc = .ok (.invokevirtual idx, 3)) (_ : 0 = 0) (hV : lw_V idx m2) (hEv : Ev m2 0 (rt_ini m2 (.ref i :: as)) [] h = some (some (.int v), h2)) (ho : rt_ob h.1 i (rt_own m2) = true)
    (hal : as.all rt_o1 = true) (hlen : as.length + 1 = rt_na m2) (hml2 : rt_na m2 ≤ rt_ml m2) (_ : 0 = 0) (hcs : (rest.map fun v => v.category).sum ≤ 8) (hrf : rt_rf m2 + 1 ≤ 13) (hrl : 8 + (rt_ml m2 + 11) + rt_rl m2 ≤ 516) (hb2 : h2.1 ≤ 111) (hca : ca.size = 4) (hP : va_P D vwCl (rt_wd s.heap.size cs h) H) (hS : va_S (fun q => s.heap.size ≤ q) s.heap H locs)
    (kk : ∀ (H1 : Heap) (locs1 : List Loc), va_P D vwCl (rt_wd s.heap.size cs h2) H1 → va_S (fun q => s.heap.size ≤ q) s.heap H1 locs1 → lw_W p l e s mid b below meth c H1 locs1 h2 (F0 mid (pc + 3) ca (.int v :: rest))) :
    lw_W p l e s mid b below meth c H locs h (F0 mid pc ca ((as.map (rt_cv s.heap.size sA)).reverse ++ .ref (s.heap.size + i) :: rest)) := by
  have hts := lw_hts C
  have hpre := @lw_pre p s mid meth c b Ls xs D cs sA Zs h H locs C hZ hP hS
  obtain ⟨⟨hx, hb, hr, hml, hown, -, hX, hbl, hlocks, hgv⟩, hK, hN, hz⟩ := C
  obtain ⟨hm, w1, w2, w3, w4, hs2⟩ := hV
  have hle := Ev_n hEv
  have hsl := rt_sl_le hle
  have hsl2 := Nat.le_trans (rt_sl_le hb2) rt_sl111
  have hmt := rt_mtAt hm
  have hnp := hmt.2.2.2.2.2
  rw [hs2] at hnp
  have hkd := rt_obAt ho
  have hM := rt_sound hZ l D cs (as := .ref i :: as) hm (by rw [List.all_cons, hal]; rfl) (by rw [List.length_cons, hlen]; exact hml2) hEv
  refine rt_sized (fun hsz => ?_)
  have hsize := lw_size hP hS hsz
  refine rt_after (a := (Value.ref (s.heap.size + i) :: as.map (rt_cv s.heap.size sA)).toArray) (mc := h2.1 - h.1) (ms := rt_sl h2.1 - rt_sl h.1) (rest := rest) (v := some (.int v)) (sA := sA) (va_runV (As := as.map (rt_cv s.heap.size sA)) (C := (rt_nm m2).cls) (b := s.heap.size + i) (n := rt_na m2 - 1) ⟨hx, hb, hml, hown, hts⟩ hM ⟨callB_of _ hts (rt_gin hm) rfl rfl rfl (hts _ w4) (hts _ w1) ⟨hmt.2.2.2.1, hmt.2.2.2.2.1, hnp⟩ ⟨hrf, hrl⟩, hts _ w2, hts _ w3⟩ ⟨rt_blind hZ, ?_, ?_⟩ rfl ?_ hca rfl (lv_room hcs) hd ?_) hS (fun H1 locs1 hP1 hS1 => ?_)
  · have h5 := va_recv hK hP (rt_clAt (rt_kd_lt hkd.2)) (rt_obj (b0 := s.heap.size) (cs := cs) ho)
    rw [hmt.2.1]
    exact h5
  · exact hpre hsize
  · rw [List.length_map]
    omega
  · exact ⟨by show h.1 + (h2.1 - h.1) ≤ 600000; omega, by show rt_sl h.1 + (rt_sl h2.1 - rt_sl h.1) ≤ 7302250; omega⟩
  · have k := kk H1 locs1 hP1 hS1
    unfold lw_W at k
    rw [show h2.1 = h.1 + (h2.1 - h.1) by omega, show rt_sl (h.1 + (h2.1 - h.1)) = rt_sl h.1 + (rt_sl h2.1 - rt_sl h.1) by rw [show h.1 + (h2.1 - h.1) = h2.1 by omega]; omega] at k
    exact k
end LW

set_option maxRecDepth 20000 in
theorem lw_instT : (List.range 11).all (fun ci => lw_tbl.contains (.instantiable (rt_cn ci) (rt_nf ci)) && lw_tbl.contains (.initialized (rt_cn ci))) = true := by decide +kernel
theorem lw_inst {ci : Nat} (h : ci < 11) : Cond.instantiable (rt_cn ci) (rt_nf ci) ∈ rt_tt ∧ Cond.initialized (rt_cn ci) ∈ rt_tt := by
  have h1 := List.all_eq_true.mp lw_instT ci (List.mem_range.mpr h)
  rw [Bool.and_eq_true] at h1
  exact ⟨rt_arI h1.1 rfl, rt_arI h1.2 rfl⟩
set_option maxRecDepth 20000 in
theorem lw_lkT : (lw_tbl.contains (.classLink R_law 7 (rt_cn 9)) && lw_tbl.contains (.classLink R_law 10 (rt_cn 10)) && lw_tbl.contains (.methodLink R_law 9 (rt_nm mX9_init)) && lw_tbl.contains (.methodLink R_law 12 (rt_nm mX10_init)) && lw_tbl.contains (.instanceMethod (rt_nm mX9_init)) && lw_tbl.contains (.instanceMethod (rt_nm mX10_init)) && lw_tbl.contains (.arrayOver (.object RX1))) = true := by decide +kernel
section LWS
variable {p : Program} {l : Launch} {e : Env} {s : State} {mid : MethodId} {below : List Frame} {meth : Method} {c : Code} {b Ls : Nat} {xs : Nat → Int32} {D : va_G} {cs : Nat → ClassId} {sA : Nat → Nat} {Zs : State → Prop} {h h2 : rt_H} {H : Heap} {locs : List Loc} {ca : Array Slot} {pc idx m2 i : Nat} {as rest : List Value} {INV : rt_H → Prop}
/-- what the tables say at the law's entry -/
theorem lw_world (C0 : lw_At p s mid meth c b Ls xs) : ∃ (D : va_G) (cs : Nat → ClassId), va_K D vwCl (rt_tys cs) s ∧ rt_Nx s := by
  obtain ⟨hx, hb, hr, hml, hown, hts, hX, hbl, hlocks, hgv⟩ := C0
  have ht : ∀ w ∈ rt_tt, w.before #[Value.ref b] s = true := fun w hw => hts w (List.mem_filter.mp hw).1
  have hlk := lw_lkT
  simp only [Bool.and_eq_true] at hlk
  have hcls := rt_arC
  simp only [Bool.and_eq_true, decide_eq_true_eq] at hcls
  obtain ⟨⟨⟨⟨c1, c2⟩, c3⟩, c4⟩, -⟩ := hcls
  have f : ∀ ci, ∃ q : ClassId × (Nat → Nat), ci < 11 → u_Kn s (rt_cn ci) (rt_tb ci) (rt_nf ci) q.1 q.2 := by
    intro ci
    by_cases hci : ci < 11
    · obtain ⟨cC, iS, hk⟩ := u_known (C := rt_cn ci) (T := rt_tb ci) (N := rt_nf ci) (n := rt_nf ci) ht (rt_inAll hci) (ht _ (lw_inst hci).1)
      exact ⟨(cC, iS), fun _ => hk⟩
    · exact ⟨(0, fun _ => 0), fun q => absurd q hci⟩
  have arr : ∀ ty : FieldType, Cond.arrayClass ty ∈ rt_tt → (∀ C, ty ≠ .object C) → ∃ cA : ClassId, ArrOfT s cA ty ∧ va_RA s cA ty := by
    intro ty hin hno
    obtain ⟨cA, kA, comp, g1, g2, g3⟩ := Cond.arrayClass_spec (ht _ hin)
    refine ⟨cA, fun n z => ⟨fun k h => (by cases h), kA, g2, comp, g3⟩, ?_⟩
    cases ty with
    | object C => exact absurd rfl (hno C)
    | _ => exact g1
  obtain ⟨d1, hd1⟩ := arr .int (rt_arI c1 rfl) (fun _ q => by cases q)
  obtain ⟨d2, hd2⟩ := arr .byte (rt_arI c2 rfl) (fun _ q => by cases q)
  obtain ⟨d3, hd3⟩ := arr .boolean (rt_arI c3 rfl) (fun _ q => by cases q)
  obtain ⟨d4, hd4⟩ := arr .long (rt_arI c4 rfl) (fun _ q => by cases q)
  have hAO : va_AO RX1 s := va_AO.of (hts _ (List.contains_iff_mem.mp hlk.2))
  obtain ⟨comp, d5, k5, g1, -, g3, g4, g5⟩ := Cond.arrayOver_spec hAO
  refine ⟨(fun ci => (Classical.choose (f ci)).1, fun ci => (Classical.choose (f ci)).2), fun k => if k = 1 then d1 else if k = 2 then d2 else if k = 3 then d3 else if k = 4 then d4 else d5, ⟨fun ci q hq => ?_, fun k q hq => ?_⟩, fun w hw => ?_, hAO⟩
  · have hci : ci < 11 := (List.getElem?_eq_some_iff.mp hq).1
    rw [rt_clAt hci] at hq
    cases hq
    exact Classical.choose_spec (f ci) hci
  · match k, hq with
    | 0, hq => cases hq; exact hd1
    | 1, hq => cases hq; exact hd2
    | 2, hq => cases hq; exact hd3
    | 3, hq => cases hq; exact hd4
    | 4, hq =>
      cases hq
      exact ⟨fun n z => ⟨fun k h => (by cases h), k5, g3, comp, g4⟩, k5, comp, g3, g4, g1, g5⟩
    | k + 5, hq => cases hq
  · have h1 := hts w (List.mem_filter.mp hw).1
    have h2 := (List.mem_filter.mp hw).2
    cases w <;> first | exact va_Nw.of rfl h1 | cases h2
theorem lw_new (C : lw_C p s mid meth c b Ls xs D cs Zs) {ci : Nat} (hci : ci < 11) (hd : decode code pc = .ok (.new idx, 3)) (hlk : Cond.classLink R_law idx (rt_cn ci) ∈ rt_tt) (hkd : rt_kd h.1 = (0, ci)) (h111 : h.1 + 1 ≤ 111) (hP : va_P D vwCl (rt_wd s.heap.size cs h) H) (hS : va_S (fun q => s.heap.size ≤ q) s.heap H locs)
    (kk : ∀ (H1 : Heap), va_P D vwCl (rt_wd s.heap.size cs (h.1 + 1, rt_row h.2.1 h.1 (fun _ => 0), rt_row h.2.2.1 h.1 (fun _ => 0), rt_row h.2.2.2 h.1 (fun _ => none))) H1 → va_S (fun q => s.heap.size ≤ q) s.heap H1 locs → lw_W p l e s mid b below meth c H1 locs (h.1 + 1, rt_row h.2.1 h.1 (fun _ => 0), rt_row h.2.2.1 h.1 (fun _ => 0), rt_row h.2.2.2 h.1 (fun _ => none)) (F0 mid (pc + 3) ca (.ref (s.heap.size + h.1) :: rest))) :
    lw_W p l e s mid b below meth c H locs h (F0 mid pc ca rest) := by
  have hts := lw_hts C
  obtain ⟨⟨hx, hb, hr, hml, hown, -, hX, hbl, hlocks, hgv⟩, hK, hN, hz⟩ := C
  have hsl := Nat.le_trans (rt_sl_le h111) rt_sl111
  have hs1 : rt_sl (h.1 + 1) = rt_sl h.1 + rt_nf ci := by show rt_sl h.1 + rt_sz h.1 = _; unfold rt_sz; rw [hkd]; rfl
  refine va_new hx hb hts (rt_inAll hci) (rt_ty ci) (rt_tyAll hci) hown (hts _ hlk) (hts _ (lw_inst hci).1) (hts _ (lw_inst hci).2) hK hP rt_wd_D hS (fun q hq => hq) (rt_clAt hci) (fs := rt_fs s.heap.size (fun _ => 0) (fun _ => 0) (fun _ => none) ci) (fun j hj => rt_dflt hci hj) (by show h.1 + 1 ≤ 600000; omega) (by show rt_sl h.1 + rt_nf ci ≤ 7302250; omega) hd (fun q H1 hP1 hD1 hS1 => ?_)
  refine rt_sized (fun hzz => ?_)
  have hq : q = s.heap.size + h.1 := rt_newq (n := 0) (n0 := 0) (cells := 0) rfl (Nat.zero_le _) hP1 hD1 (by rw [Nat.sub_zero]; exact hzz)
  subst hq
  have hw : rt_wd s.heap.size cs h ++ [(s.heap.size + h.1, .inr (ci, rt_fs s.heap.size (fun _ => 0) (fun _ => 0) (fun _ => none) ci))] = rt_wd s.heap.size cs (h.1 + 1, rt_row h.2.1 h.1 (fun _ => 0), rt_row h.2.2.1 h.1 (fun _ => 0), rt_row h.2.2.2 h.1 (fun _ => none)) := rt_wd_push (I := h.2.1) (L := h.2.2.1) (R := h.2.2.2) (rt_enO hkd)
  rw [hw] at hP1
  have k := kk H1 hP1 hS1
  unfold lw_W at k
  dsimp only at k
  rw [hs1] at k
  exact k
theorem lw_callI (C : lw_C p s mid meth c b Ls xs D cs Zs) (hZ : rt_Zok s.heap.size sA Zs) (hd : decode code pc = .ok (.invokespecial idx, 3)) (hm : m2 < 246) (w1 : Cond.methodLink R_law idx (rt_nm m2) ∈ rt_tt) (w2 : Cond.instanceMethod (rt_nm m2) ∈ rt_tt) (w4 : Cond.initialized (rt_nm m2).cls ∈ rt_tt) (hnm : (rt_nm m2).name = "<init>") (hrt : rt_ret m2 = none) (hs2 : (rt_mt m2).2.2.2.2.2.2.1 = 0) (hna : rt_na m2 = 1) (hml2 : 1 ≤ rt_ml m2)
    (hEv : Ev m2 0 (rt_ini m2 [.ref i]) [] h = some (none, h2)) (hcs : (rest.map fun v => v.category).sum ≤ 8) (hrf : rt_rf m2 + 1 ≤ 13) (hrl : 8 + (rt_ml m2 + 11) + rt_rl m2 ≤ 516) (hb2 : h2.1 ≤ 111) (hca : ca.size = 4) (hP : va_P D vwCl (rt_wd s.heap.size cs h) H) (hS : va_S (fun q => s.heap.size ≤ q) s.heap H locs)
    (kk : ∀ (H1 : Heap) (locs1 : List Loc), va_P D vwCl (rt_wd s.heap.size cs h2) H1 → va_S (fun q => s.heap.size ≤ q) s.heap H1 locs1 → lw_W p l e s mid b below meth c H1 locs1 h2 (F0 mid (pc + 3) ca rest)) :
    lw_W p l e s mid b below meth c H locs h (F0 mid pc ca (.ref (s.heap.size + i) :: rest)) := by
  have hts := lw_hts C
  have hpre := @lw_pre p s mid meth c b Ls xs D cs sA Zs h H locs C hZ hP hS
  obtain ⟨⟨hx, hb, hr, hml, hown, -, hX, hbl, hlocks, hgv⟩, hK, hN, hz⟩ := C
  have hle := Ev_n hEv
  have hsl := rt_sl_le hle
  have hsl2 := Nat.le_trans (rt_sl_le hb2) rt_sl111
  have hmt := rt_mtAt hm
  have hnp := hmt.2.2.2.2.2
  rw [hs2] at hnp
  have hM := rt_sound hZ l D cs (as := [.ref i]) hm rfl hml2 hEv
  have hws : rt_ws m2 = Cond.code (rt_nm m2) (rt_code m2) (rt_ml m2) none :: rt_tt := by unfold rt_ws; rw [hrt]
  refine rt_sized (fun hsz => ?_)
  have hsize := lw_size hP hS hsz
  refine rt_after (a := (Value.ref (s.heap.size + i) :: []).toArray) (mc := h2.1 - h.1) (ms := rt_sl h2.1 - rt_sl h.1) (rest := rest) (v := none) (sA := sA) (va_runI (As := []) (b := s.heap.size + i) (n := rt_na m2 - 1) ⟨hx, hb, hml, hown, hts⟩ hM ⟨callB_of _ hts (rt_gin hm) hws rfl rfl (hts _ w4) (hts _ w1) ⟨hmt.2.2.2.1, hmt.2.2.2.2.1, hnp⟩ ⟨hrf, hrl⟩, hnm, hts _ w2⟩ ⟨rt_blind hZ, hpre hsize⟩ rfl (by rw [hna]; rfl) hca rfl (lv_room hcs) hd ?_) hS (fun H1 locs1 hP1 hS1 => ?_)
  · exact ⟨by show h.1 + (h2.1 - h.1) ≤ 600000; omega, by show rt_sl h.1 + (rt_sl h2.1 - rt_sl h.1) ≤ 7302250; omega⟩
  · have k := kk H1 locs1 hP1 hS1
    unfold lw_W at k
    rw [show h2.1 = h.1 + (h2.1 - h.1) by omega, show rt_sl (h.1 + (h2.1 - h.1)) = rt_sl h.1 + (rt_sl h2.1 - rt_sl h.1) by rw [show h.1 + (h2.1 - h.1) = h2.1 by omega]; omega] at k
    exact k
/-- the two constructors give INV -/
def lw_Init (INV : rt_H → Prop) : Prop := ∃ h1 h2 : rt_H, Ev mX9_init 0 (rt_ini mX9_init [.ref 0]) [] (1, fun _ _ => 0, fun _ _ => 0, fun _ _ => none) = some (none, h1) ∧ h1.1 = 33 ∧ Ev mX10_init 0 (rt_ini mX10_init [.ref 33]) [] (34, rt_row h1.2.1 33 (fun _ => 0), rt_row h1.2.2.1 33 (fun _ => 0), rt_row h1.2.2.2 33 (fun _ => none)) = some (none, h2) ∧ INV h2
theorem lw_row0 {α : Type} {d : α} {n : Nat} : rt_row (fun _ _ => d) n (fun _ => d) = (fun _ _ => d : Nat → Nat → α) := by
  funext a
  unfold rt_row
  split <;> rfl
/-- THE LAW from its entry, out of INV: its start, its keeping, and the string -/
theorem lw_whole (l : Launch) (hL : Ls ≤ 3072) (C : lw_C p s mid meth c b Ls xs D cs Zs) (hZ : rt_Zok s.heap.size sA Zs) (hsz : ∀ h, INV h → 71 ≤ h.1 ∧ h.1 ≤ 111) (hA : lw_All INV) (hI : lw_Init INV) :
    W p l e room_1 s mid #[Value.ref b] below meth c s.heap [] 0 0 (lw_Z below #[Value.ref b] s) (entryFrame mid ([Value.ref b] : List Value).toArray 4) := by
  have C' := C
  obtain ⟨⟨hx, hb, hr, hml, hown, hts0, hX, hbl, hlocks, hgv⟩, hK, hN, hz⟩ := C'
  have hlk := lw_lkT
  simp only [Bool.and_eq_true] at hlk
  obtain ⟨⟨⟨⟨⟨⟨k1, k2⟩, k3⟩, k4⟩, k5⟩, k6⟩, -⟩ := hlk
  obtain ⟨h1, h2, e1, hn1, e2, hI2⟩ := hI
  have s2 := hsz h2 hI2
  have hl := lv_entry ([.ref b]) (n := 4) (Nat.le_of_ble_eq_true rfl)
  rw [lg_entry_eq]
  generalize (lg_sl ([.ref b]) ++ List.replicate (4 - (lg_sl ([.ref b])).length) Slot.unset).toArray = ca at hl ⊢
  have hl : lv_has ca 4 [(0, .ref b)] := hl
  have hP0 : va_P D vwCl (rt_wd s.heap.size cs (0, fun _ _ => 0, fun _ _ => 0, fun _ _ => none)) s.heap := fun k q hk => absurd (rt_wd_inv hk).1 (Nat.not_lt_zero _)
  have hS0 : va_S (fun q => s.heap.size ≤ q) s.heap s.heap [] := va_S.rf
  refine lw_new (h := (0, fun _ _ => 0, fun _ _ => 0, fun _ _ => none)) C (ci := 9) (by decide) dL_law_0 (rt_arI k1 rfl) rfl (by decide) hP0 hS0 (fun H hP hS => ?_)
  dsimp only at hP ⊢
  rw [lw_row0, lw_row0, lw_row0] at hP ⊢
  refine lv_dup hx hb dL_law_3 rfl ?_
  refine lw_callI (h := (1, fun _ _ => 0, fun _ _ => 0, fun _ _ => none)) (h2 := h1) (m2 := mX9_init) (i := 0) (rest := [.ref (s.heap.size + 0)]) C hZ dL_law_4 (by decide) (rt_arI k3 rfl) (rt_arI k5 rfl) (lw_inst (ci := 9) (by decide)).2 rfl rfl rfl rfl (by decide) e1 (Nat.le_of_ble_eq_true rfl) (by decide +kernel) (by decide +kernel) (by omega) hl.1 hP hS (fun H locs hP hS => ?_)
  refine lv_astore_n (lv' := [(1, .ref (s.heap.size + 0)), (0, .ref b)]) hx hb dL_law_7 rfl hl (by decide) rfl (fun ca hl => ?_)
  refine lw_new (h := h1) C (ci := 10) (by decide) dL_law_8 (rt_arI k2 rfl) (by rw [hn1]; rfl) (by omega) hP hS (fun H hP hS => ?_)
  have hh : (h1.1 + 1, rt_row h1.2.1 h1.1 (fun _ => 0), rt_row h1.2.2.1 h1.1 (fun _ => 0), rt_row h1.2.2.2 h1.1 (fun _ => none)) = ((34, rt_row h1.2.1 33 (fun _ => 0), rt_row h1.2.2.1 33 (fun _ => 0), rt_row h1.2.2.2 33 (fun _ => none)) : rt_H) := by rw [hn1]
  rw [hh] at hP ⊢
  rw [hn1]
  refine lv_dup hx hb dL_law_11 rfl ?_
  refine lw_callI (h2 := h2) (m2 := mX10_init) (i := 33) (rest := [.ref (s.heap.size + 33)]) C hZ dL_law_12 (by decide) (rt_arI k4 rfl) (rt_arI k6 rfl) (lw_inst (ci := 10) (by decide)).2 rfl rfl rfl rfl (by decide) e2 (Nat.le_of_ble_eq_true rfl) (by decide +kernel) (by decide +kernel) s2.2 hl.1 hP hS (fun H locs hP hS => ?_)
  refine lv_astore_n (lv' := [(2, .ref (s.heap.size + 33)), (1, .ref (s.heap.size + 0)), (0, .ref b)]) hx hb dL_law_15 rfl hl (by decide) rfl (fun ca hl => ?_)
  refine lv_iconst (v := 0) hx hb dL_law_16 (by decide) ?_
  refine lv_istore_n (lv' := [(3, .int 0), (2, .ref (s.heap.size + 33)), (1, .ref (s.heap.size + 0)), (0, .ref b)]) hx hb dL_law_17 rfl hl (by decide) rfl (fun ca hl => ?_)
  exact lw_loop C hZ hsz hA hL (Ls + 1) 0 h2 (Nat.zero_le _) (by omega) hI2 H locs ca hP hS (lv_sub hl [3, 2, 1, 0] rfl)
end LWS

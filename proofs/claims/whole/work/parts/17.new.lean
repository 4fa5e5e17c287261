def rt_nwc (e : Nat × Nat × Nat × Nat × Nat × Nat) : Bool := match e with
  | (o, idx, ci, p1, p2, p3) => decide (ci < 11) && decide (lw_tbl[p1]? = some (.classLink (rt_cn o) idx (rt_cn ci))) && decide (lw_tbl[p2]? = some (.instantiable (rt_cn ci) (rt_nf ci))) && decide (lw_tbl[p3]? = some (.initialized (rt_cn ci)))
set_option maxRecDepth 20000 in
theorem rt_nwT : rt_nwL.all rt_nwc = true := by decide +kernel
theorem rt_nwAt {o idx o' idx' ci p1 p2 p3 : Nat} (e : rt_nw o idx = some (o', idx', ci, p1, p2, p3)) : ci < 11 ∧ Cond.classLink (rt_cn o) idx (rt_cn ci) ∈ rt_tt ∧ Cond.instantiable (rt_cn ci) (rt_nf ci) ∈ rt_tt ∧ Cond.initialized (rt_cn ci) ∈ rt_tt := by
  unfold rt_nw at e
  have h1 := List.mem_of_find?_eq_some e
  have h2 := List.find?_some e
  have h3 := List.all_eq_true.mp rt_nwT _ h1
  simp only [Bool.and_eq_true, beq_iff_eq] at h2
  obtain ⟨rfl, rfl⟩ := h2
  simp only [rt_nwc, Bool.and_eq_true, decide_eq_true_eq] at h3
  exact ⟨h3.1.1.1, rt_inAt h3.1.1.2 rfl, rt_inAt h3.1.2 rfl, rt_inAt h3.2 rfl⟩
theorem rt_arC : (decide (lw_tbl.contains (.arrayClass .int)) && decide (lw_tbl.contains (.arrayClass .byte)) && decide (lw_tbl.contains (.arrayClass .boolean)) && decide (lw_tbl.contains (.arrayClass .long)) && decide (lw_tbl.contains (.classLink RX8 18 RX1))) = true := by decide +kernel
theorem rt_arI {w : Cond} (h : lw_tbl.contains w = true) (hg : goodWord w = true) : w ∈ rt_tt := List.mem_filter.mpr ⟨List.contains_iff_mem.mp h, hg⟩
section RTN
variable {p : Program} {l : Launch} {e : Env} {R : Room} {s : State} {mid : MethodId} {args : Array Value} {below : List Frame} {meth : Method} {c : Code} {Q : State → Prop} {D : va_G} {cs : Nat → ClassId} {b0 : Nat} {sA : Nat → Nat} {n0 ne m pc pc2 : Nat} {ls st ls2 st2 : List Value} {h h2 : rt_H}
theorem rt_new_inv {pc3 : Nat} {st3 : List Value} (hr : rt_new pc3 ls st3 h = some (.inr (.inl (pc2, ls2, st2, h2)))) : pc3 = pc2 ∧ ls = ls2 ∧ .ref h.1 :: st3 = st2 ∧ (h.1 + 1, rt_row h.2.1 h.1 (fun _ => 0), rt_row h.2.2.1 h.1 (fun _ => 0), rt_row h.2.2.2 h.1 (fun _ => none)) = h2 := by
  unfold rt_new at hr
  obtain ⟨a, b, c, d⟩ := rt_go_inv hr
  exact ⟨a, b, c, d⟩
/-- a cell is made: the shape of the row is given -/
theorem rt_w_new {pc3 sz : Nat} {st3 : List Value} {en : va_E} (C : rt_Cx p R s mid args meth c D cs b0 n0 ne m) (hne : h2.1 ≤ ne) (hsz : rt_sz h.1 = sz) (hen : rt_en b0 cs (rt_kd h.1) (fun _ => 0) (fun _ => 0) (fun _ => none) = en)
    (hr : rt_new pc3 ls st3 h = some (.inr (.inl (pc2, ls2, st2, h2)))) (kk : rt_W p l e R s mid args below meth c Q D cs b0 sA n0 m pc2 ls2 st2 h2)
    (row : ∀ {H : Heap} {locs : List Loc} {cells slots : Nat} {ca : Array Slot}, va_P D vwCl (rt_wd b0 cs h) H → va_S (fun q => b0 ≤ q) s.heap H locs → cells + 1 ≤ R.cells → slots + sz ≤ R.slots →
      (∀ (q : Nat) (H1 : Heap), va_P D vwCl (rt_wd b0 cs h ++ [(q, en)]) H1 → va_D (fun q => b0 ≤ q) (rt_wd b0 cs h ++ [(q, en)]) → va_S (fun q => b0 ≤ q) s.heap H1 locs → W p l e R s mid args below meth c H1 locs (cells + 1) (slots + sz) Q (F0 mid pc3 ca (.ref q :: st3.map (rt_cv b0 sA)))) →
      W p l e R s mid args below meth c H locs cells slots Q (F0 mid pc ca (st.map (rt_cv b0 sA)))) :
    rt_W p l e R s mid args below meth c Q D cs b0 sA n0 m pc ls st h := by
  obtain ⟨hx, hb, hml, hown, hts, hret, hlk, hnm, hs0, hK, hN, hR⟩ := C
  obtain ⟨rfl, rfl, rfl, rfl⟩ := rt_new_inv hr
  intro hn H locs ca hP hS hl ho
  have hne' : h.1 + 1 ≤ ne := hne
  have hsl := rt_sl_le hne'
  have hsl0 := rt_sl_le hn
  have hs1 : rt_sl (h.1 + 1) = rt_sl h.1 + sz := by show rt_sl h.1 + rt_sz h.1 = _; rw [hsz]
  refine row hP hS (by rw [hR]; show h.1 - n0 + 1 ≤ ne - n0; omega) (by rw [hR]; show rt_sl h.1 - rt_sl n0 + sz ≤ rt_sl ne - rt_sl n0; omega) (fun q H1 hP1 hD1 hS1 => ?_)
  refine rt_sized (fun hz => ?_)
  have hq : q = b0 + h.1 := rt_newq (n := 0) (cells := 0) hs0 hn hP1 hD1 hz
  subst hq
  have hw : rt_wd b0 cs h ++ [(b0 + h.1, en)] = rt_wd b0 cs (h.1 + 1, rt_row h.2.1 h.1 (fun _ => 0), rt_row h.2.2.1 h.1 (fun _ => 0), rt_row h.2.2.2 h.1 (fun _ => none)) := rt_wd_push (I := h.2.1) (L := h.2.2.1) (R := h.2.2.2) hen
  rw [hw] at hP1
  have k1 := kk (by show n0 ≤ h.1 + 1; omega) H1 locs ca hP1 hS1 hl ho
  have e1 : h.1 + 1 - n0 = h.1 - n0 + 1 := by omega
  have e2 : rt_sl (h.1 + 1) - rt_sl n0 = rt_sl h.1 - rt_sl n0 + sz := by omega
  show W p l e R s mid args below meth c H1 locs (h.1 - n0 + 1) (rt_sl h.1 - rt_sl n0 + sz) Q _
  rw [← e1, ← e2]
  exact k1
theorem rt_dflt {ci j : Nat} (hci : ci < 11) (hj : j < rt_nf ci) : defaultValue (rt_ty ci j) = vp_V (rt_fs b0 (fun _ => 0) (fun _ => 0) (fun _ => none) ci) j := by
  unfold vp_V
  rw [List.getD_eq_getElem?_getD, rt_fs_at hj]
  have h1 := (rt_ftAt hci hj).1
  unfold rt_fv
  cases hq : rt_ty ci j <;> rw [hq] at h1 <;> (match hf : rt_ft ci j with
    | 0 => first | rfl | (rw [hf] at h1; cases h1)
    | 1 => first | rfl | (rw [hf] at h1; cases h1)
    | 2 => first | rfl | (rw [hf] at h1; cases h1)
    | 3 => first | rfl | (rw [hf] at h1; cases h1)
    | n + 4 => rw [hf] at h1; cases h1)
theorem rt_w_obj (C : rt_Cx p R s mid args meth c D cs b0 n0 ne m) (hne : h2.1 ≤ ne) {idx o' idx' ci p1 p2 p3 : Nat} (hd : decode (rt_code m) pc = .ok (.new idx, 3)) (hf : rt_nw (rt_own m) idx = some (o', idx', ci, p1, p2, p3)) (hk : (rt_kd h.1 == (0, ci)) = true)
    (hr : rt_new (pc + 3) ls st h = some (.inr (.inl (pc2, ls2, st2, h2)))) (kk : rt_W p l e R s mid args below meth c Q D cs b0 sA n0 m pc2 ls2 st2 h2) :
    rt_W p l e R s mid args below meth c Q D cs b0 sA n0 m pc ls st h := by
  have hkd : rt_kd h.1 = (0, ci) := beq_iff_eq.mp hk
  refine rt_w_new C hne (sz := rt_nf ci) (en := .inr (ci, rt_fs b0 (fun _ => 0) (fun _ => 0) (fun _ => none) ci)) (by unfold rt_sz; rw [hkd]; rfl) (rt_enO hkd) hr kk ?_
  intro H locs cells slots ca hP hS hc1 hc2 kr
  obtain ⟨hx, hb, hml, hown, hts, hret, hlk, hnm, hs0, hK, hN, hR⟩ := C
  obtain ⟨hci, w1, w2, w3⟩ := rt_nwAt hf
  exact va_new hx hb hts (rt_inAll hci) (rt_ty ci) (rt_tyAll hci) hown (hts _ w1) (hts _ w2) (hts _ w3) hK hP rt_wd_D hS (fun q hq => by show b0 ≤ q; omega) (rt_clAt hci) (fun j hj => rt_dflt hci hj) hc1 hc2 hd kr
theorem rt_wkA {ty : FieldType} {cA : ClassId} {i : Nat} {cB : ClassId} (hK : va_K D vwCl (rt_tys cs ++ [(cA, ty)]) s) (hi : (rt_tys cs)[i]? = some (cB, ty)) : cA = cB := by
  have h1 := (hK.2 5 (cA, ty) rfl).2
  have hl : i < (rt_tys cs).length := (List.getElem?_eq_some_iff.mp hi).1
  have h3 := (hK.2 i (cB, ty) (by rw [List.getElem?_append_left hl]; exact hi)).2
  cases ty with
  | object C =>
    obtain ⟨_, _, _, _, _, a⟩ := h1
    obtain ⟨_, _, _, _, _, b⟩ := h3
    exact Option.some.inj (a.symm.trans b)
  | _ => exact Option.some.inj (h1.symm.trans h3)
theorem rt_w_newa (C : rt_Cx p R s mid args meth c D cs b0 n0 ne m) (hne : h2.1 ≤ ne) {ty : ArrayType} {x : Int32} {r : List Value} (hd : decode (rt_code m) pc = .ok (.newarray ty, 2))
    (hk : ((rt_kd h.1 == (rt_aty ty, x.toNatClampNeg)) && decide (0 ≤ x) && decide (rt_aty ty < 9) && decide (x.toNatClampNeg < 10000)) = true)
    (hr : rt_new (pc + 2) ls r h = some (.inr (.inl (pc2, ls2, st2, h2)))) (kk : rt_W p l e R s mid args below meth c Q D cs b0 sA n0 m pc2 ls2 st2 h2) :
    rt_W p l e R s mid args below meth c Q D cs b0 sA n0 m pc ls (.int x :: r) h := by
  simp only [Bool.and_eq_true, beq_iff_eq, decide_eq_true_eq] at hk
  obtain ⟨⟨⟨hkd, hx0⟩, hty⟩, hlt⟩ := hk
  have hx1 : ¬ x < 0 := by rw [Int32.not_lt]; exact hx0
  have hcls := rt_arC
  simp only [Bool.and_eq_true, decide_eq_true_eq] at hcls
  obtain ⟨⟨⟨⟨c1, c2⟩, c3⟩, c4⟩, -⟩ := hcls
  have C' := C
  obtain ⟨hx, hb, hml, hown, hts, hret, hlk, hnm, hs0, hK, hN, hR⟩ := C'
  have hA : ∀ q, s.heap.size ≤ q → (fun q => b0 ≤ q) q := fun q hq => by show b0 ≤ q; omega
  cases ty with
  | int =>
    refine rt_w_new C hne (sz := x.toNatClampNeg) (en := .inl (cs 1, x.toNatClampNeg, .inl (fun _ => 0))) (by unfold rt_sz; rw [hkd]; rfl) (by rw [rt_en1 (by rw [hkd]; rfl), hkd]) hr kk ?_
    intro H locs cells slots ca hP hS hc1 hc2 kr
    refine va_newa (atype := .int) (ty := .int) (a0 := (x.toNatClampNeg, .inl (fun _ => 0))) hx hb (hts (.arrayClass .int) (rt_arI c1 rfl)) rfl hK hP rt_wd_D hS hA (fun _ => rfl) hx1 rfl (by show _ * 4 ≤ _; omega) hc1 hc2 hd (fun q cA H1 hK1 hP1 hD1 hS1 => ?_)
    have hcA := rt_wkA (i := 0) hK1 rfl
    subst hcA
    exact kr q H1 hP1 hD1 hS1
  | byte =>
    refine rt_w_new C hne (sz := x.toNatClampNeg) (en := .inl (cs 2, x.toNatClampNeg, .inl (fun _ => 0))) (by unfold rt_sz; rw [hkd]; rfl) (by rw [rt_en2 (by rw [hkd]; rfl), hkd]) hr kk ?_
    intro H locs cells slots ca hP hS hc1 hc2 kr
    refine va_newa (atype := .byte) (ty := .byte) (a0 := (x.toNatClampNeg, .inl (fun _ => 0))) hx hb (hts (.arrayClass .byte) (rt_arI c2 rfl)) rfl hK hP rt_wd_D hS hA (fun _ => rfl) hx1 rfl (by show _ * 1 ≤ _; omega) hc1 hc2 hd (fun q cA H1 hK1 hP1 hD1 hS1 => ?_)
    have hcA := rt_wkA (i := 1) hK1 rfl
    subst hcA
    exact kr q H1 hP1 hD1 hS1
  | boolean =>
    refine rt_w_new C hne (sz := x.toNatClampNeg) (en := .inl (cs 3, x.toNatClampNeg, .inl (fun _ => 0))) (by unfold rt_sz; rw [hkd]; rfl) (by rw [rt_en3 (by rw [hkd]; rfl), hkd]) hr kk ?_
    intro H locs cells slots ca hP hS hc1 hc2 kr
    refine va_newa (atype := .boolean) (ty := .boolean) (a0 := (x.toNatClampNeg, .inl (fun _ => 0))) hx hb (hts (.arrayClass .boolean) (rt_arI c3 rfl)) rfl hK hP rt_wd_D hS hA (fun _ => rfl) hx1 rfl (by show _ * 1 ≤ _; omega) hc1 hc2 hd (fun q cA H1 hK1 hP1 hD1 hS1 => ?_)
    have hcA := rt_wkA (i := 2) hK1 rfl
    subst hcA
    exact kr q H1 hP1 hD1 hS1
  | long =>
    refine rt_w_new C hne (sz := x.toNatClampNeg) (en := .inl (cs 4, x.toNatClampNeg, .inr (.inl (fun _ => 0)))) (by unfold rt_sz; rw [hkd]; rfl) (by rw [rt_en4 (by rw [hkd]; rfl), hkd]) hr kk ?_
    intro H locs cells slots ca hP hS hc1 hc2 kr
    refine va_newa (atype := .long) (ty := .long) (a0 := (x.toNatClampNeg, .inr (.inl (fun _ => 0)))) hx hb (hts (.arrayClass .long) (rt_arI c4 rfl)) rfl hK hP rt_wd_D hS hA (fun _ => rfl) hx1 rfl (by show _ * 8 ≤ _; omega) hc1 hc2 hd (fun q cA H1 hK1 hP1 hD1 hS1 => ?_)
    have hcA := rt_wkA (i := 3) hK1 rfl
    subst hcA
    exact kr q H1 hP1 hD1 hS1
  | _ => exact absurd hty (by decide)
theorem rt_w_newr (C : rt_Cx p R s mid args meth c D cs b0 n0 ne m) (hne : h2.1 ≤ ne) {idx : Nat} {x : Int32} {r : List Value} (hd : decode (rt_code m) pc = .ok (.anewarray idx, 3))
    (hk : ((rt_kd h.1 == (5, x.toNatClampNeg)) && decide (0 ≤ x) && decide (rt_own m = 8) && idx == 18 && decide (x.toNatClampNeg < 10000)) = true)
    (hr : rt_new (pc + 3) ls r h = some (.inr (.inl (pc2, ls2, st2, h2)))) (kk : rt_W p l e R s mid args below meth c Q D cs b0 sA n0 m pc2 ls2 st2 h2) :
    rt_W p l e R s mid args below meth c Q D cs b0 sA n0 m pc ls (.int x :: r) h := by
  simp only [Bool.and_eq_true, beq_iff_eq, decide_eq_true_eq] at hk
  obtain ⟨⟨⟨⟨hkd, hx0⟩, ho8⟩, hidx⟩, hlt⟩ := hk
  subst hidx
  have hx1 : ¬ x < 0 := by rw [Int32.not_lt]; exact hx0
  have hcls := rt_arC
  simp only [Bool.and_eq_true, decide_eq_true_eq] at hcls
  refine rt_w_new C hne (sz := x.toNatClampNeg) (en := .inl (cs 5, x.toNatClampNeg, .inr (.inr (.inr (.inr (fun _ => none)))))) (by unfold rt_sz; rw [hkd]; rfl) (by rw [rt_en5 (by rw [hkd]), hkd]; rfl) hr kk ?_
  obtain ⟨hx, hb, hml, hown, hts, hret, hlk, hnm, hs0, hK, hN, hR⟩ := C
  intro H locs cells slots ca hP hS hc1 hc2 kr
  rw [ho8] at hown
  refine va_newq (C := RX1) hx hb hown (hts _ (rt_arI hcls.2 rfl)) hN.2 hK hP rt_wd_D hS (fun q hq => by show b0 ≤ q; omega) hx1 rfl (by omega) hc1 hc2 hd (fun q cA H1 hK1 hP1 hD1 hS1 => ?_)
  have hcA := rt_wkA (i := 4) hK1 rfl
  subst hcA
  exact kr q H1 hP1 hD1 hS1
end RTN

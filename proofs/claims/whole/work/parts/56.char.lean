section SU
variable {l : Launch} {b0 : Nat} {sA sV : Nat → Nat}
theorem st_x {x : Int32} (h : rt_in x 132 = true) : ∃ j : Nat, j < 132 ∧ x = nI j := vp_in_of (rt_inIn h) (by decide)
theorem st_check3 {x : Int32} {r : Option Nat} (hin : rt_in x 132 = true) : Met l yJ3_checkIndex_8e157 (st_ws yJ3_checkIndex_8e157 cJ3_checkIndex_8e157 3 (some .int)) (st_rm 0 0) (st_Pc b0 sA sV [.int x, .int (nI 132), va_rf r]) (vp_Si (fun _ => True)) 0 0 (fun _ => False) := by
  refine Met.ofW (cc := cJ3_checkIndex_8e157) (maxL := 3) (ret := some .int) (by decide) rfl ?_
  intro p e s m args below meth c s₁ B hml hv
  obtain ⟨rfl, hz, hbs⟩ := hv
  have hx := B.exec
  have hb := B.bytes
  have hr := B.returns
  have hlocks := B.notSynchronized
  obtain ⟨j, hj, rfl⟩ := st_x hin
  have hl : lv_has ((lg_sl ([.int (nI j), .int (nI 132), va_rf r]) ++ List.replicate (3 - (lg_sl ([.int (nI j), .int (nI 132), va_rf r])).length) Slot.unset).toArray) 3 [(0, .int (nI j)), (1, .int (nI 132)), (2, va_rf r)] := by
    cases r <;> exact lv_entry _ (n := 3) (Nat.le_of_ble_eq_true rfl)
  rw [lg_entry_eq]
  generalize (lg_sl ([.int (nI j), .int (nI 132), va_rf r]) ++ List.replicate (3 - (lg_sl ([.int (nI j), .int (nI 132), va_rf r])).length) Slot.unset).toArray = ls at hl ⊢
  refine lv_iload_n hx hb dJ3_checkIndex_8e157_0 rfl (lv_at hl 0 rfl) ?_
  refine lv_if_lt (tgt := 9) hx hb dJ3_checkIndex_8e157_1 (by decide) (fun q => absurd q (nI_pos (by omega))) (fun _ => ?_)
  refine lv_iload_n hx hb dJ3_checkIndex_8e157_4 rfl (lv_at hl 0 rfl) ?_
  refine lv_iload_n hx hb dJ3_checkIndex_8e157_5 rfl (lv_at hl 1 rfl) ?_
  refine lv_icmp_lt (tgt := 16) hx hb dJ3_checkIndex_8e157_6 (by decide) (fun _ => ?_) (fun q => absurd (nI_lt hj (by decide)) q)
  refine lv_iload_n hx hb dJ3_checkIndex_8e157_16 rfl (lv_at hl 0 rfl) ?_
  exact W.iret hx hb hr (fun t ht hW => ⟨_, rfl, trivial, ht⟩) (fun _ h => by cases h) dJ3_checkIndex_8e157_17
theorem st_check {x : Int32} (hin : rt_in x 132 = true) : Met l yJ0_checkIndex_df160 (st_ws yJ0_checkIndex_df160 cJ0_checkIndex_df160 2 none) (st_rm 1 22) (st_Pc b0 sA sV [.int x, .int (nI 132)]) (va_Sv (fun _ => True)) 0 0 (fun _ => False) := by
  refine Met.ofW (cc := cJ0_checkIndex_df160) (maxL := 2) (ret := none) (by decide) rfl ?_
  intro p e s m args below meth c s₁ B hml hv
  obtain ⟨rfl, hz, hbs⟩ := hv
  have hx := B.exec
  have hb := B.bytes
  have hr := B.returns
  have hlocks := B.notSynchronized
  have hts : ∀ w ∈ rt_tt, w.before _ s = true := fun w hw => atoms_spec (ws := st_ws yJ0_checkIndex_df160 cJ0_checkIndex_df160 2 none) B.pre w (List.mem_cons_of_mem _ hw)
  have hown : s.vm.findClass RJ0 = some m.cls := findClass_of_methodNamed B.named
  have hS : va_S (fun q => b0 ≤ q) s.heap s.heap [] := va_S.rf
  have hz0 := hz
  obtain ⟨z1, z2, z3, z4⟩ := hz
  have hl := lv_entry ([.int x, .int (nI 132)]) (n := 2) (Nat.le_of_ble_eq_true rfl)
  rw [lg_entry_eq]
  generalize (lg_sl ([.int x, .int (nI 132)]) ++ List.replicate (2 - (lg_sl ([.int x, .int (nI 132)])).length) Slot.unset).toArray = ls at hl ⊢
  have hl : lv_has ls 2 [(0, .int x), (1, .int (nI 132))] := hl
  refine lv_iload_n hx hb dJ0_checkIndex_df160_0 rfl (lv_at hl 0 rfl) ?_
  refine lv_iload_n hx hb dJ0_checkIndex_df160_1 rfl (lv_at hl 1 rfl) ?_
  have go : ∀ r : Option Nat, va_Z "jdk/internal/util/Preconditions" "SIOOBE_FORMATTER" "Ljava/util/function/BiFunction;" (va_rf r) (fun q => b0 ≤ q) s s.heap → W p l e (headSpec (st_ws yJ0_checkIndex_df160 cJ0_checkIndex_df160 2 none) (st_rm 1 22)).room s m ([Value.int x, Value.int (nI 132)]).toArray below meth c s.heap [] 0 0 (MQ below (va_Sv (fun _ => True)) ([Value.int x, Value.int (nI 132)]).toArray s 0 0 (fun _ => False)) (F0 m 2 ls [.int (nI 132), .int x]) := by
    intro r hzr
    refine va_gets hx hb hzr hS hown (hts _ st_fl.2.1) (fun _ h9 => h9) dJ0_checkIndex_df160_2 ?_
    refine vp_callSi (W.runS (As := [.int x, .int (nI 132), va_rf r]) (rest := []) (n := 3) ⟨hx, hb, hml, hown, hts⟩ (st_check3 (r := r) hin) ⟨callB_of _ hts (st_gin st_c1.2.2.2.2.2.2) rfl rfl rfl (hts _ st_ini.2.2) (hts _ st_lks.2.2.1) (by decide +kernel) ⟨Nat.le_of_ble_eq_true rfl, Nat.le_of_ble_eq_true rfl⟩, hts _ st_lks.2.2.2⟩ ⟨st_bl, st_pre hz0 hbs hS⟩ rfl rfl hl.1 rfl (lv_room (Nat.le_of_ble_eq_true rfl)) dJ0_checkIndex_df160_5 ⟨Nat.le_of_ble_eq_true rfl, Nat.le_of_ble_eq_true rfl⟩) (fun r2 _ => ?_)
    refine lv_pop hx hb dJ0_checkIndex_df160_8 rfl ?_
    exact W.vret hx hb hr (fun t ht hW => ⟨rfl, trivial, ht⟩) (fun _ h => by cases h) dJ0_checkIndex_df160_9
  rcases z4 with h4 | ⟨t, h4⟩
  · exact go none h4
  · exact go (some t) h4
theorem st_byT : st_by.length = 132 ∧ rt_strB.length = 132 ∧ (rt_strB.all fun n => decide (n < 128)) = true := by decide +kernel
theorem st_byAt {j : Nat} (hj : j < 132) : st_by.getD j 0 = nI (rt_strB.getD j 0) ∧ rt_strB.getD j 0 < 128 := by
  have hl : j < rt_strB.length := by rw [st_byT.2.1]; exact hj
  refine ⟨?_, ?_⟩
  · unfold st_by
    rw [List.getD_eq_getElem?_getD, List.getElem?_map, List.getD_eq_getElem?_getD, List.getElem?_eq_getElem hl]
    rfl
  · have h1 := List.all_eq_true.mp st_byT.2.2 _ (List.getElem_mem hl)
    rw [List.getD_eq_getElem?_getD, List.getElem?_eq_getElem hl]
    simpa using h1
theorem st_chr {n : Nat} (hn : n < 128) : ((nI n &&& 255).toUInt32 % 65536).toInt32 = nI n := by
  have h1 : nI n &&& 255 = nI n := by
    have := pk_andN (n := n) (by omega) (m := 255) 8 (by decide)
    rw [this, Nat.mod_eq_of_lt (by omega)]
  rw [h1, pk_char, pk_tn (by omega), Nat.mod_eq_of_lt (by omega)]
theorem st_charL {x : Int32} (hin : rt_in x 132 = true) : Met l yJ1_charAt_3b067 (st_ws yJ1_charAt_3b067 cJ1_charAt_3b067 2 (some .char)) (st_rm 2 43) (st_Pc b0 sA sV [.ref (sV 0), .int x]) (vp_Si (fun r => r = nI (rt_strB.getD x.toNatClampNeg 0))) 0 0 (fun _ => False) := by
  refine Met.ofW (cc := cJ1_charAt_3b067) (maxL := 2) (ret := some .char) (by decide) rfl ?_
  intro p e s m args below meth c s₁ B hml hv
  obtain ⟨rfl, hz, hbs⟩ := hv
  have hx := B.exec
  have hb := B.bytes
  have hr := B.returns
  have hlocks := B.notSynchronized
  have hts : ∀ w ∈ rt_tt, w.before _ s = true := fun w hw => atoms_spec (ws := st_ws yJ1_charAt_3b067 cJ1_charAt_3b067 2 (some .char)) B.pre w (List.mem_cons_of_mem _ hw)
  have hown : s.vm.findClass RJ1 = some m.cls := findClass_of_methodNamed B.named
  have hS : va_S (fun q => b0 ≤ q) s.heap s.heap [] := va_S.rf
  have hz0 := hz
  obtain ⟨z1, z2, z3, z4⟩ := hz
  obtain ⟨j, hj, hxj⟩ := st_x hin
  have hcl : x.toNatClampNeg = j := by rw [hxj]; exact nI_clamp (by omega)
  obtain ⟨hby, h128⟩ := st_byAt hj
  have hl := lv_entry ([.ref (sV 0), .int x]) (n := 2) (Nat.le_of_ble_eq_true rfl)
  rw [lg_entry_eq]
  generalize (lg_sl ([.ref (sV 0), .int x]) ++ List.replicate (2 - (lg_sl ([.ref (sV 0), .int x])).length) Slot.unset).toArray = ls at hl ⊢
  have hl : lv_has ls 2 [(0, .ref (sV 0)), (1, .int x)] := hl
  refine lv_iload_n hx hb dJ1_charAt_3b067_0 rfl (lv_at hl 1 rfl) ?_
  refine lv_aload_n hx hb dJ1_charAt_3b067_1 rfl (lv_at hl 0 rfl) ?_
  refine va_tlen (v := nI 132) hx hb (z2.1 0 (by decide)).2.2.2 hS rfl dJ1_charAt_3b067_2 ?_
  refine va_csv (W.runS (As := [.int x, .int (nI 132)]) (rest := []) (n := 2) ⟨hx, hb, hml, hown, hts⟩ (st_check hin) ⟨callB_of _ hts (st_gin st_c1.2.2.2.2.2.1) rfl rfl rfl (hts _ st_ini.1) (hts _ st_lks.2.1.1) (by decide +kernel) ⟨Nat.le_of_ble_eq_true rfl, Nat.le_of_ble_eq_true rfl⟩, hts _ st_lks.2.1.2⟩ ⟨st_bl, st_pre hz0 hbs hS⟩ rfl rfl hl.1 rfl (lv_room (Nat.le_of_ble_eq_true rfl)) dJ1_charAt_3b067_3 ⟨Nat.le_of_ble_eq_true rfl, Nat.le_of_ble_eq_true rfl⟩) (fun _ => ?_)
  refine lv_aload_n hx hb dJ1_charAt_3b067_6 rfl (lv_at hl 0 rfl) ?_
  refine lv_iload_n hx hb dJ1_charAt_3b067_7 rfl (lv_at hl 1 rfl) ?_
  refine va_tb (v := .int (nI (rt_strB.getD j 0))) hx hb (z2.1 0 (by decide)).2.2.2 hS (rt_inIn hin) (by rw [hcl]; exact congrArg Value.int hby) dJ1_charAt_3b067_8 ?_
  refine lv_sipush (v := 255) hx hb dJ1_charAt_3b067_9 (by decide) ?_
  refine lv_iand hx hb dJ1_charAt_3b067_12 ?_
  refine lv_i2c hx hb dJ1_charAt_3b067_13 (st_chr h128) ?_
  exact W.zret (ty := .char) hx hb hr (pk_charN (by omega)).1 (fun t ht hW => ⟨_, rfl, by rw [hcl], ht⟩) (fun _ h => by cases h) dJ1_charAt_3b067_14
theorem st_char {x : Int32} (hin : rt_in x 132 = true) : Met l yJ0_charAt_5068e (st_ws yJ0_charAt_5068e cJ0_charAt_5068e 2 (some .char)) (st_rm 3 64) (st_Pc b0 sA sV [.ref (sA 0), .int x]) (vp_Si (fun r => r = nI (rt_strB.getD x.toNatClampNeg 0))) 0 0 (fun _ => False) := by
  refine Met.ofW (cc := cJ0_charAt_5068e) (maxL := 2) (ret := some .char) (by decide) rfl ?_
  intro p e s m args below meth c s₁ B hml hv
  obtain ⟨rfl, hz, hbs⟩ := hv
  have hx := B.exec
  have hb := B.bytes
  have hr := B.returns
  have hlocks := B.notSynchronized
  have hts : ∀ w ∈ rt_tt, w.before _ s = true := fun w hw => atoms_spec (ws := st_ws yJ0_charAt_5068e cJ0_charAt_5068e 2 (some .char)) B.pre w (List.mem_cons_of_mem _ hw)
  have hown : s.vm.findClass RJ0 = some m.cls := findClass_of_methodNamed B.named
  have hS : va_S (fun q => b0 ≤ q) s.heap s.heap [] := va_S.rf
  have hz0 := hz
  obtain ⟨z1, z2, z3, z4⟩ := hz
  obtain ⟨j, hj, hxj⟩ := st_x hin
  have hcl : x.toNatClampNeg = j := by rw [hxj]; exact nI_clamp (by omega)
  obtain ⟨hby, h128⟩ := st_byAt hj
  have hl := lv_entry ([.ref (sA 0), .int x]) (n := 2) (Nat.le_of_ble_eq_true rfl)
  rw [lg_entry_eq]
  generalize (lg_sl ([.ref (sA 0), .int x]) ++ List.replicate (2 - (lg_sl ([.ref (sA 0), .int x])).length) Slot.unset).toArray = ls at hl ⊢
  have hl : lv_has ls 2 [(0, .ref (sA 0)), (1, .int x)] := hl
  refine lv_aload_n hx hb dJ0_charAt_5068e_0 rfl (lv_at hl 0 rfl) ?_
  refine vp_callSi (W.runV (As := []) (b := sA 0) (C := RJ0) (rest := []) (n := 0) ⟨hx, hb, hml, hown, hts⟩ st_isLatin1 ⟨callB_of _ hts (st_gin st_c1.2.2.1) rfl rfl rfl (hts _ st_ini.1) (hts _ st_lk.2.1.1) (by decide +kernel) ⟨Nat.le_of_ble_eq_true rfl, Nat.le_of_ble_eq_true rfl⟩, hts _ st_lk.2.1.2.1, hts _ st_lk.2.1.2.2⟩ ⟨st_bl, vk_recv z2 (by decide) hS, st_pre hz0 hbs hS⟩ rfl rfl hl.1 rfl (lv_room (Nat.le_of_ble_eq_true rfl)) dJ0_charAt_5068e_1 ⟨Nat.le_of_ble_eq_true rfl, Nat.le_of_ble_eq_true rfl⟩) (fun r hr0 => ?_)
  subst hr0
  refine lv_if_eq (tgt := 16) hx hb dJ0_charAt_5068e_4 (by decide) (fun q => absurd q (by decide)) (fun _ => ?_)
  refine lv_aload_n hx hb dJ0_charAt_5068e_7 rfl (lv_at hl 0 rfl) ?_
  refine vk_getf hx hb (z2.1 0 (by decide)).2.2.1 hS hown (hts _ st_fl.2.2.1) (fun _ h9 => h9) dJ0_charAt_5068e_8 ?_
  refine lv_iload_n hx hb dJ0_charAt_5068e_11 rfl (lv_at hl 1 rfl) ?_
  refine vp_callSi (W.runS (As := [.ref (sV 0), .int x]) (rest := []) (n := 2) ⟨hx, hb, hml, hown, hts⟩ (st_charL hin) ⟨callB_of _ hts (st_gin st_c1.2.2.2.2.1) rfl rfl rfl (hts _ st_ini.2.1) (hts _ st_lks.1.1) (by decide +kernel) ⟨Nat.le_of_ble_eq_true rfl, Nat.le_of_ble_eq_true rfl⟩, hts _ st_lks.1.2⟩ ⟨st_bl, st_pre hz0 hbs hS⟩ rfl rfl hl.1 rfl (lv_room (Nat.le_of_ble_eq_true rfl)) dJ0_charAt_5068e_12 ⟨Nat.le_of_ble_eq_true rfl, Nat.le_of_ble_eq_true rfl⟩) (fun r hr0 => ?_)
  subst hr0
  exact W.zret (ty := .char) hx hb hr (by rw [hcl]; exact (pk_charN (by omega)).1) (fun t ht hW => ⟨_, rfl, rfl, ht⟩) (fun _ h => by cases h) dJ0_charAt_5068e_15
theorem st_caT : (rt_caL.all fun e => (e.2.2.1 != 6 || (e.1 == 8 && e.2.1 == 71)) && (e.2.2.1 != 7 || (e.1 == 8 && e.2.1 == 76))) = true := by decide +kernel
/-- all that the small machine asks of the string -/
theorem st_Zok : rt_Zok b0 sA (lw_Zs b0 sA sV) := by
  have key : ∀ {o idx x1 x2 k x4 x5 x6 x7 x8 : Nat}, rt_ca o idx = some (x1, x2, k, x4, x5, x6, x7, x8) → (k = 6 → o = 8 ∧ idx = 71) ∧ (k = 7 → o = 8 ∧ idx = 76) := by
    intro o idx x1 x2 k x4 x5 x6 x7 x8 hc
    have h1 := List.all_eq_true.mp st_caT _ (List.mem_of_find?_eq_some (by unfold rt_ca at hc; exact hc))
    obtain ⟨e1, e2, -⟩ := rt_caAt hc
    dsimp only at e1 e2 h1
    subst e1; subst e2
    refine ⟨fun hk => ?_, fun hk => ?_⟩
    · subst hk; simpa using h1
    · subst hk; simpa using h1
  refine ⟨fun s U hz hW hh => st_Zw hz hW hh, fun U g mk a hz => st_Zc hz, ?_, ?_, ?_⟩
  · intro p l e R s mid args below meth c Q cc pc H locs cells slots ca rest hx hb hown hz hd k
    exact va_ldcS hx hb hown hz.1 hd k
  · intro p l e R s mid args below meth c Q D cs n0 ne m pc idx x1 x2 x4 x5 x6 x7 x8 H locs cells slots ca rest C hz hd hc hf hr hcs hcc hss hca hS k
    obtain ⟨hx, hb, hml, hown, hts, hret, hlk, hnm, hs0, hK, hN, hR⟩ := C
    obtain ⟨ho, rfl⟩ := (key hc).1 rfl
    rw [ho] at hown
    refine vp_callSi (W.runV (As := []) (b := sA 0) (C := RJ0) (rest := rest) (n := 0) ⟨hx, hb, hml, hown, hts⟩ (st_length (l := l) (b0 := b0) (sV := sV)) ⟨callB_of _ hts (st_gin st_c1.2.1) rfl rfl rfl (hts _ st_ini.1) (hts _ st_lk.2.2.1.1) (by decide +kernel) (by rw [hR]; exact ⟨by show 1 + 1 ≤ rt_rf m; omega, by show 8 + (1 + 11) + 20 ≤ rt_rl m; omega⟩), hts _ st_lk.2.2.1.2.1, hts _ st_lk.2.2.1.2.2⟩ ⟨st_bl, vk_recv hz.2.1 (by decide) hS, st_pre hz (by omega) hS⟩ rfl rfl hca rfl (lv_room hcs) hd ⟨hcc, hss⟩) (fun r hr0 => ?_)
    subst hr0
    exact k
  · intro p l e R s mid args below meth c Q D cs n0 ne m pc idx x1 x2 x4 x5 x6 x7 x8 H locs cells slots ca rest x C hz hd hc hf hr hcs hin hcc hss hca hS k
    obtain ⟨hx, hb, hml, hown, hts, hret, hlk, hnm, hs0, hK, hN, hR⟩ := C
    obtain ⟨ho, rfl⟩ := (key hc).2 rfl
    rw [ho] at hown
    refine vp_callSi (W.runV (As := [.int x]) (b := sA 0) (C := RJ0) (rest := rest) (n := 1) ⟨hx, hb, hml, hown, hts⟩ (st_char (l := l) (b0 := b0) (sV := sV) hin) ⟨callB_of _ hts (st_gin st_c1.2.2.2.1) rfl rfl rfl (hts _ st_ini.1) (hts _ st_lk.2.2.2.1) (by decide +kernel) (by rw [hR]; exact ⟨by show 3 + 1 ≤ rt_rf m; omega, by show 8 + (2 + 11) + 64 ≤ rt_rl m; omega⟩), hts _ st_lk.2.2.2.2.1, hts _ st_lk.2.2.2.2.2⟩ ⟨st_bl, vk_recv hz.2.1 (by decide) hS, st_pre hz (by omega) hS⟩ rfl rfl hca rfl (lv_room hcs) hd ⟨hcc, hss⟩) (fun r hr0 => ?_)
    subst hr0
    exact k
end SU

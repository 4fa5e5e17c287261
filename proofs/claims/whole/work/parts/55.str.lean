/-! THE STRING CONSTANT: what its two methods answer -/
def st_tx : String := "thing block pyramid box one red green blue white big small put take drop is many which means i own no the a it that on in under down"
def st_by : List Int32 := rt_strB.map nI
def lw_Zs (b0 : Nat) (sA sV : Nat → Nat) (U : State) : Prop := vk_R RX8 69 st_tx (sA 0) U ∧ vk_S 1 [132] [st_by] sA sV (fun q => b0 ≤ q) U U.heap ∧ va_Z "java/lang/String" "COMPACT_STRINGS" "Z" (.int 1) (fun q => b0 ≤ q) U U.heap ∧ va_Zq "jdk/internal/util/Preconditions" "SIOOBE_FORMATTER" "Ljava/util/function/BiFunction;" (fun q => b0 ≤ q) U U.heap
theorem st_Zw {b0 : Nat} {sA sV : Nat → Nat} {s U : State} (hz : lw_Zs b0 sA sV s) (hW : s.WarmedH U.vm) (hh : ∀ q : Nat, q < b0 → U.heap[q]? = s.heap[q]?) : lw_Zs b0 sA sV U := by
  obtain ⟨h1, h2, h3, h4⟩ := hz
  have hq : ∀ a : Nat, a < s.heap.size → ¬ (fun q => b0 ≤ q) a → U.heap[a]? = s.heap[a]? := fun a _ ha => hh a (Nat.lt_of_not_le ha)
  exact ⟨vk_R.warm hW h1, vk_S.moved hW.alike (h2.kept hq), va_Z.moved hW.alike (h3.kept hq), va_Zq.moved hW.alike (h4.kept hq)⟩
theorem st_Zc {b0 : Nat} {sA sV : Nat → Nat} {U : State} {g : JFrame} {mk : MethodId} {a : Array Value} (hz : lw_Zs b0 sA sV U) : lw_Zs b0 sA sV (U.calling g mk a) := by
  obtain ⟨h1, h2, h3, h4⟩ := hz
  exact ⟨vk_R.same (u := U) rfl h1, vk_S.moved (u := U) (Vm.Alike.refl U.vm) h2, va_Z.moved (u := U) (Vm.Alike.refl U.vm) h3, va_Zq.moved (u := U) (Vm.Alike.refl U.vm) h4⟩
def st_ws (y : MethodName) (cc : ByteArray) (n : Nat) (r : Option FieldType) : List Cond := Cond.code y cc n r :: rt_tt
theorem st_gin {y : MethodName} {cc : ByteArray} {n : Nat} {r : Option FieldType} (h : Cond.code y cc n r ∈ rt_tt) : GoodIn rt_tt (st_ws y cc n r) := by
  intro w hw
  unfold st_ws at hw
  rcases List.mem_cons.mp hw with rfl | hw
  · exact ⟨h, rt_good h⟩
  · exact ⟨hw, rt_good hw⟩
def st_rm (f n : Nat) : Room := { frames := f, cells := 0, slots := 0, locals := n }
def st_Pc (b0 : Nat) (sA sV : Nat → Nat) (as : List Value) : Array Value → State → Prop := va_Pc as (fun U => lw_Zs b0 sA sV U ∧ b0 ≤ U.heap.size)
theorem st_bl {b0 : Nat} {sA sV : Nat → Nat} {as : List Value} : FrameBlind (st_Pc b0 sA sV as) := fun _ _ _ _ q => ⟨q.1, st_Zc q.2.1, q.2.2⟩
set_option maxRecDepth 20000 in
theorem st_c1 : Cond.code yJ0_coder_7d493 cJ0_coder_7d493 1 (some .byte) ∈ rt_tt ∧ Cond.code yJ0_length_8abf5 cJ0_length_8abf5 1 (some .int) ∈ rt_tt ∧ Cond.code yJ0_isLatin1_aae02 cJ0_isLatin1_aae02 1 (some .boolean) ∈ rt_tt ∧ Cond.code yJ0_charAt_5068e cJ0_charAt_5068e 2 (some .char) ∈ rt_tt ∧ Cond.code yJ1_charAt_3b067 cJ1_charAt_3b067 2 (some .char) ∈ rt_tt ∧ Cond.code yJ0_checkIndex_df160 cJ0_checkIndex_df160 2 none ∈ rt_tt ∧ Cond.code yJ3_checkIndex_8e157 cJ3_checkIndex_8e157 3 (some .int) ∈ rt_tt :=
  ⟨rt_inAt (i := 524) rfl rfl, rt_inAt (i := 520) rfl rfl, rt_inAt (i := 534) rfl rfl, rt_inAt (i := 530) rfl rfl, rt_inAt (i := 537) rfl rfl, rt_inAt (i := 540) rfl rfl, rt_inAt (i := 545) rfl rfl⟩
set_option maxRecDepth 20000 in
theorem st_fl : Cond.fieldLink RJ0 38 "java/lang/String" "COMPACT_STRINGS" "Z" ∈ rt_tt ∧ Cond.fieldLink RJ0 1053 "jdk/internal/util/Preconditions" "SIOOBE_FORMATTER" "Ljava/util/function/BiFunction;" ∈ rt_tt ∧ Cond.fieldLink RJ0 9 "java/lang/String" "value" "[B" ∈ rt_tt ∧ Cond.fieldLink RJ0 15 "java/lang/String" "coder" "B" ∈ rt_tt :=
  ⟨rt_inAt (i := 525) (by decide +kernel) rfl, rt_inAt (i := 541) (by decide +kernel) rfl, rt_inAt (i := 1636) (by decide +kernel) rfl, rt_inAt (i := 1637) (by decide +kernel) rfl⟩
set_option maxRecDepth 20000 in
theorem st_ini : Cond.initialized RJ0 ∈ rt_tt ∧ Cond.initialized RJ1 ∈ rt_tt ∧ Cond.initialized RJ3 ∈ rt_tt := ⟨rt_inAt (i := 95) (by decide +kernel) rfl, rt_inAt (i := 96) (by decide +kernel) rfl, rt_inAt (i := 97) (by decide +kernel) rfl⟩
set_option maxRecDepth 20000 in
theorem st_lk : (Cond.methodLink RJ0 335 yJ0_coder_7d493 ∈ rt_tt ∧ Cond.instanceMethod yJ0_coder_7d493 ∈ rt_tt ∧ Cond.selects RJ0 yJ0_coder_7d493 yJ0_coder_7d493 ∈ rt_tt) ∧ (Cond.methodLink RJ0 492 yJ0_isLatin1_aae02 ∈ rt_tt ∧ Cond.instanceMethod yJ0_isLatin1_aae02 ∈ rt_tt ∧ Cond.selects RJ0 yJ0_isLatin1_aae02 yJ0_isLatin1_aae02 ∈ rt_tt) ∧ (Cond.methodLink RX8 71 yJ0_length_8abf5 ∈ rt_tt ∧ Cond.instanceMethod yJ0_length_8abf5 ∈ rt_tt ∧ Cond.selects RJ0 yJ0_length_8abf5 yJ0_length_8abf5 ∈ rt_tt) ∧ (Cond.methodLink RX8 76 yJ0_charAt_5068e ∈ rt_tt ∧ Cond.instanceMethod yJ0_charAt_5068e ∈ rt_tt ∧ Cond.selects RJ0 yJ0_charAt_5068e yJ0_charAt_5068e ∈ rt_tt) :=
  ⟨⟨rt_inAt (i := 521) (by decide +kernel) rfl, rt_inAt (i := 522) (by decide +kernel) rfl, rt_inAt (i := 523) (by decide +kernel) rfl⟩, ⟨rt_inAt (i := 531) (by decide +kernel) rfl, rt_inAt (i := 532) (by decide +kernel) rfl, rt_inAt (i := 533) (by decide +kernel) rfl⟩, ⟨rt_inAt (i := 517) (by decide +kernel) rfl, rt_inAt (i := 518) (by decide +kernel) rfl, rt_inAt (i := 519) (by decide +kernel) rfl⟩, ⟨rt_inAt (i := 527) (by decide +kernel) rfl, rt_inAt (i := 528) (by decide +kernel) rfl, rt_inAt (i := 529) (by decide +kernel) rfl⟩⟩
set_option maxRecDepth 20000 in
theorem st_lks : (Cond.methodLink RJ0 495 yJ1_charAt_3b067 ∈ rt_tt ∧ Cond.static yJ1_charAt_3b067 ∈ rt_tt) ∧ (Cond.methodLink RJ1 9 yJ0_checkIndex_df160 ∈ rt_tt ∧ Cond.static yJ0_checkIndex_df160 ∈ rt_tt) ∧ (Cond.methodLink RJ0 1059 yJ3_checkIndex_8e157 ∈ rt_tt ∧ Cond.static yJ3_checkIndex_8e157 ∈ rt_tt) :=
  ⟨⟨rt_inAt (i := 535) (by decide +kernel) rfl, rt_inAt (i := 536) (by decide +kernel) rfl⟩, ⟨rt_inAt (i := 538) (by decide +kernel) rfl, rt_inAt (i := 539) (by decide +kernel) rfl⟩, ⟨rt_inAt (i := 543) (by decide +kernel) rfl, rt_inAt (i := 544) (by decide +kernel) rfl⟩⟩
section ST
variable {l : Launch} {b0 : Nat} {sA sV : Nat → Nat}
theorem st_coder : Met l yJ0_coder_7d493 (st_ws yJ0_coder_7d493 cJ0_coder_7d493 1 (some .byte)) (st_rm 0 0) (st_Pc b0 sA sV [.ref (sA 0)]) (vp_Si (fun r => r = 0)) 0 0 (fun _ => False) := by
  refine Met.ofW (cc := cJ0_coder_7d493) (maxL := 1) (ret := some .byte) (by decide) rfl ?_
  intro p e s m args below meth c s₁ B hml hv
  obtain ⟨rfl, hz, hbs⟩ := hv
  have hx := B.exec
  have hb := B.bytes
  have hr := B.returns
  have hlocks := B.notSynchronized
  have hts : ∀ w ∈ rt_tt, w.before _ s = true := fun w hw => atoms_spec (ws := st_ws yJ0_coder_7d493 cJ0_coder_7d493 1 (some .byte)) B.pre w (List.mem_cons_of_mem _ hw)
  have hown : s.vm.findClass RJ0 = some m.cls := findClass_of_methodNamed B.named
  have hS : va_S (fun q => b0 ≤ q) s.heap s.heap [] := va_S.rf
  obtain ⟨z1, z2, z3, z4⟩ := hz
  have hl := lv_entry ([.ref (sA 0)]) (n := 1) (Nat.le_of_ble_eq_true rfl)
  rw [lg_entry_eq]
  generalize (lg_sl ([.ref (sA 0)]) ++ List.replicate (1 - (lg_sl ([.ref (sA 0)])).length) Slot.unset).toArray = ls at hl ⊢
  have hl : lv_has ls 1 [(0, .ref (sA 0))] := hl
  refine va_gets hx hb z3 hS hown (hts _ st_fl.1) (fun _ h9 => h9) dJ0_coder_7d493_0 ?_
  refine lv_if_eq (tgt := 13) hx hb dJ0_coder_7d493_3 (by decide) (fun q => absurd q (by decide)) (fun _ => ?_)
  refine lv_aload_n hx hb dJ0_coder_7d493_6 rfl (lv_at hl 0 rfl) ?_
  refine vk_getf hx hb (z2.1 0 (by decide)).2.1 hS hown (hts _ st_fl.2.2.2) (fun _ h9 => h9) dJ0_coder_7d493_7 ?_
  refine lv_goto (tgt := 14) hx hb dJ0_coder_7d493_10 (by decide) ?_
  exact W.zret (ty := .byte) hx hb hr (by decide +kernel) (fun t ht hW => ⟨0, rfl, rfl, ht⟩) (fun _ h => by cases h) dJ0_coder_7d493_14
theorem st_isLatin1 : Met l yJ0_isLatin1_aae02 (st_ws yJ0_isLatin1_aae02 cJ0_isLatin1_aae02 1 (some .boolean)) (st_rm 0 0) (st_Pc b0 sA sV [.ref (sA 0)]) (vp_Si (fun r => r = 1)) 0 0 (fun _ => False) := by
  refine Met.ofW (cc := cJ0_isLatin1_aae02) (maxL := 1) (ret := some .boolean) (by decide) rfl ?_
  intro p e s m args below meth c s₁ B hml hv
  obtain ⟨rfl, hz, hbs⟩ := hv
  have hx := B.exec
  have hb := B.bytes
  have hr := B.returns
  have hlocks := B.notSynchronized
  have hts : ∀ w ∈ rt_tt, w.before _ s = true := fun w hw => atoms_spec (ws := st_ws yJ0_isLatin1_aae02 cJ0_isLatin1_aae02 1 (some .boolean)) B.pre w (List.mem_cons_of_mem _ hw)
  have hown : s.vm.findClass RJ0 = some m.cls := findClass_of_methodNamed B.named
  have hS : va_S (fun q => b0 ≤ q) s.heap s.heap [] := va_S.rf
  obtain ⟨z1, z2, z3, z4⟩ := hz
  have hl := lv_entry ([.ref (sA 0)]) (n := 1) (Nat.le_of_ble_eq_true rfl)
  rw [lg_entry_eq]
  generalize (lg_sl ([.ref (sA 0)]) ++ List.replicate (1 - (lg_sl ([.ref (sA 0)])).length) Slot.unset).toArray = ls at hl ⊢
  have hl : lv_has ls 1 [(0, .ref (sA 0))] := hl
  refine va_gets hx hb z3 hS hown (hts _ st_fl.1) (fun _ h9 => h9) dJ0_isLatin1_aae02_0 ?_
  refine lv_if_eq (tgt := 17) hx hb dJ0_isLatin1_aae02_3 (by decide) (fun q => absurd q (by decide)) (fun _ => ?_)
  refine lv_aload_n hx hb dJ0_isLatin1_aae02_6 rfl (lv_at hl 0 rfl) ?_
  refine vk_getf hx hb (z2.1 0 (by decide)).2.1 hS hown (hts _ st_fl.2.2.2) (fun _ h9 => h9) dJ0_isLatin1_aae02_7 ?_
  refine lv_if_ne (tgt := 17) hx hb dJ0_isLatin1_aae02_10 (by decide) (fun q => absurd rfl q) (fun _ => ?_)
  refine lv_iconst (v := 1) hx hb dJ0_isLatin1_aae02_13 (by decide) ?_
  refine lv_goto (tgt := 18) hx hb dJ0_isLatin1_aae02_14 (by decide) ?_
  exact W.zret (ty := .boolean) hx hb hr (by decide +kernel) (fun t ht hW => ⟨1, rfl, rfl, ht⟩) (fun _ h => by cases h) dJ0_isLatin1_aae02_18
theorem st_pre {s : State} {H : Heap} {locs : List Loc} {as : List Value} (hz : lw_Zs b0 sA sV s) (hbs : b0 ≤ s.heap.size) (hS : va_S (fun q => b0 ≤ q) s.heap H locs) : ∀ U : State, U.heap = H → s.WarmedH U.vm → st_Pc b0 sA sV as as.toArray U := by
  intro U hU hW
  refine ⟨rfl, st_Zw hz hW (fun q hq => ?_), by rw [hU]; exact Nat.le_trans hbs hS.1⟩
  rw [hU]
  exact hS.2.1 q (by omega) (Nat.not_le.mpr hq)
theorem st_length : Met l yJ0_length_8abf5 (st_ws yJ0_length_8abf5 cJ0_length_8abf5 1 (some .int)) (st_rm 1 20) (st_Pc b0 sA sV [.ref (sA 0)]) (vp_Si (fun r => r = nI 132)) 0 0 (fun _ => False) := by
  refine Met.ofW (cc := cJ0_length_8abf5) (maxL := 1) (ret := some .int) (by decide) rfl ?_
  intro p e s m args below meth c s₁ B hml hv
  obtain ⟨rfl, hz, hbs⟩ := hv
  have hx := B.exec
  have hb := B.bytes
  have hr := B.returns
  have hlocks := B.notSynchronized
  have hts : ∀ w ∈ rt_tt, w.before _ s = true := fun w hw => atoms_spec (ws := st_ws yJ0_length_8abf5 cJ0_length_8abf5 1 (some .int)) B.pre w (List.mem_cons_of_mem _ hw)
  have hown : s.vm.findClass RJ0 = some m.cls := findClass_of_methodNamed B.named
  have hS : va_S (fun q => b0 ≤ q) s.heap s.heap [] := va_S.rf
  have hz0 := hz
  obtain ⟨z1, z2, z3, z4⟩ := hz
  have hl := lv_entry ([.ref (sA 0)]) (n := 1) (Nat.le_of_ble_eq_true rfl)
  rw [lg_entry_eq]
  generalize (lg_sl ([.ref (sA 0)]) ++ List.replicate (1 - (lg_sl ([.ref (sA 0)])).length) Slot.unset).toArray = ls at hl ⊢
  have hl : lv_has ls 1 [(0, .ref (sA 0))] := hl
  refine lv_aload_n hx hb dJ0_length_8abf5_0 rfl (lv_at hl 0 rfl) ?_
  refine vk_getf hx hb (z2.1 0 (by decide)).2.2.1 hS hown (hts _ st_fl.2.2.1) (fun _ h9 => h9) dJ0_length_8abf5_1 ?_
  refine va_tlen (v := nI 132) hx hb (z2.1 0 (by decide)).2.2.2 hS rfl dJ0_length_8abf5_4 ?_
  refine lv_aload_n hx hb dJ0_length_8abf5_5 rfl (lv_at hl 0 rfl) ?_
  refine vp_callSi (W.runV (As := []) (b := sA 0) (C := RJ0) (rest := [.int (nI 132)]) (n := 0) ⟨hx, hb, hml, hown, hts⟩ st_coder ⟨callB_of _ hts (st_gin st_c1.1) rfl rfl rfl (hts _ st_ini.1) (hts _ st_lk.1.1) (by decide +kernel) ⟨Nat.le_of_ble_eq_true rfl, Nat.le_of_ble_eq_true rfl⟩, hts _ st_lk.1.2.1, hts _ st_lk.1.2.2⟩ ⟨st_bl, vk_recv z2 (by decide) hS, st_pre hz0 hbs hS⟩ rfl rfl hl.1 rfl (lv_room (Nat.le_of_ble_eq_true rfl)) dJ0_length_8abf5_6 ⟨Nat.le_of_ble_eq_true rfl, Nat.le_of_ble_eq_true rfl⟩) (fun r hr0 => ?_)
  subst hr0
  refine lv_ishr hx hb dJ0_length_8abf5_9 ?_
  exact W.iret hx hb hr (fun t ht hW => ⟨_, rfl, by decide +kernel, ht⟩) (fun _ h => by cases h) dJ0_length_8abf5_10
end ST

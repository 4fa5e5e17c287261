/-! THE WALK: what the small machine does, the machine does -/
def rt_tt : List Cond := lw_tbl.filter goodWord
def rt_tys (cs : Nat → ClassId) : List (ClassId × FieldType) := [(cs 1, .int), (cs 2, .byte), (cs 3, .boolean), (cs 4, .long), (cs 5, .object RX1)]
def rt_isn : Cond → Bool
  | .fieldLinkNest _ _ _ _ _ _ => true
  | .methodLinkNest _ _ _ _ => true
  | _ => false
def rt_nest : List Cond := lw_tbl.filter rt_isn
def rt_Nx (U : State) : Prop := (∀ w ∈ rt_nest, va_Nw w U) ∧ va_AO RX1 U
def rt_rm (m n0 ne : Nat) : Room := { frames := rt_rf m, cells := ne - n0, slots := rt_sl ne - rt_sl n0, locals := rt_rl m }
/-- what holds of the machine while a method of the table runs -/
def rt_Cx (p : Program) (R : Room) (s : State) (mid : MethodId) (args : Array Value) (meth : Method) (c : Code) (D : va_G) (cs : Nat → ClassId) (b0 n0 ne m : Nat) : Prop :=
  p.tables.exec = Jvm.exec ∧ c.code = rt_code m ∧ c.maxLocals = rt_ml m ∧ s.vm.findClass (rt_cn (rt_own m)) = some mid.cls ∧ (∀ w ∈ rt_tt, w.before args s = true) ∧ meth.sig.returnType = rt_ret m ∧ meth.locks = false ∧ meth.name = (rt_nm m).name ∧
  s.heap.size = b0 + n0 ∧ va_K D vwCl (rt_tys cs) s ∧ rt_Nx s ∧ R = rt_rm m n0 ne
def rt_W (p : Program) (l : Launch) (e : Env) (R : Room) (s : State) (mid : MethodId) (args : Array Value) (below : List Frame) (meth : Method) (c : Code) (Q : State → Prop) (D : va_G) (cs : Nat → ClassId) (b0 : Nat) (sA : Nat → Nat) (n0 m pc : Nat) (ls st : List Value) (h : rt_H) : Prop :=
  n0 ≤ h.1 → ∀ (H : Heap) (locs : List Loc) (ca : Array Slot), va_P D vwCl (rt_wd b0 cs h) H → va_S (fun q => b0 ≤ q) s.heap H locs → lv_has ca (rt_ml m) (rt_lv b0 sA ls) → rt_lok (rt_ml m) ls →
    W p l e R s mid args below meth c H locs (h.1 - n0) (rt_sl h.1 - rt_sl n0) Q (F0 mid pc ca (st.map (rt_cv b0 sA)))
section RTW
variable {p : Program} {l : Launch} {e : Env} {R : Room} {s : State} {mid : MethodId} {args : Array Value} {below : List Frame} {meth : Method} {c : Code} {Q : State → Prop} {D : va_G} {cs : Nat → ClassId} {b0 : Nat} {sA : Nat → Nat} {n0 ne m pc pc2 : Nat} {ls st ls2 st2 : List Value} {h h2 : rt_H}
theorem rt_go_inv {pc3 : Nat} {ls3 st3 : List Value} {h3 : rt_H} (e : rt_go pc3 ls3 st3 h3 = some (.inr (.inl (pc2, ls2, st2, h2)))) : pc3 = pc2 ∧ ls3 = ls2 ∧ st3 = st2 ∧ h3 = h2 := by
  unfold rt_go at e
  cases e
  exact ⟨rfl, rfl, rfl, rfl⟩
theorem rt_tg_spec {pc t : Nat} {off : Int} (e : rt_tg pc off = some t) : (pc : Int) + off = (t : Int) := by
  unfold rt_tg at e
  split at e
  · cases e
    omega
  · cases e
theorem rt_lvAt {ca : Array Slot} {k : Nat} {v : Value} (hl : lv_has ca (rt_ml m) (rt_lv b0 sA ls)) (hk : ls[k]? = some v) (hp : rt_pl v = true) : ca[k]? = some (.val (rt_cv b0 sA v)) := hl.2.2 (k, rt_cv b0 sA v) (rt_lv_mem.mpr ⟨v, hk, hp, rfl⟩)
theorem rt_w_ld {k k2 : Nat} (hr : rt_ld ls k k2 st h = some (.inr (.inl (pc2, ls2, st2, h2)))) (kk : rt_W p l e R s mid args below meth c Q D cs b0 sA n0 m pc2 ls2 st2 h2)
    (row : ∀ {H : Heap} {locs : List Loc} {cells slots : Nat} {ca : Array Slot} {rest : List Value} {x : Int32}, ca[k]? = some (.val (.int x)) → W p l e R s mid args below meth c H locs cells slots Q (F0 mid k2 ca (.int x :: rest)) → W p l e R s mid args below meth c H locs cells slots Q (F0 mid pc ca rest)) :
    rt_W p l e R s mid args below meth c Q D cs b0 sA n0 m pc ls st h := by
  unfold rt_ld at hr
  split at hr
  · rename_i x hx
    obtain ⟨rfl, rfl, rfl, rfl⟩ := rt_go_inv hr
    intro hn H locs ca hP hS hl ho
    exact row (rt_lvAt hl hx rfl) (kk hn H locs ca hP hS hl ho)
  · cases hr
theorem rt_w_ldA {k k2 : Nat} (hr : rt_ldA ls k k2 st h = some (.inr (.inl (pc2, ls2, st2, h2)))) (kk : rt_W p l e R s mid args below meth c Q D cs b0 sA n0 m pc2 ls2 st2 h2)
    (row : ∀ {H : Heap} {locs : List Loc} {cells slots : Nat} {ca : Array Slot} {rest : List Value} {x : Nat}, ca[k]? = some (.val (.ref x)) → W p l e R s mid args below meth c H locs cells slots Q (F0 mid k2 ca (.ref x :: rest)) → W p l e R s mid args below meth c H locs cells slots Q (F0 mid pc ca rest)) :
    rt_W p l e R s mid args below meth c Q D cs b0 sA n0 m pc ls st h := by
  unfold rt_ldA at hr
  split at hr
  · rename_i x hx
    obtain ⟨rfl, rfl, rfl, rfl⟩ := rt_go_inv hr
    intro hn H locs ca hP hS hl ho
    exact row (rt_lvAt hl hx rfl) (kk hn H locs ca hP hS hl ho)
  · rename_i x hx
    obtain ⟨rfl, rfl, rfl, rfl⟩ := rt_go_inv hr
    intro hn H locs ca hP hS hl ho
    exact row (rt_lvAt hl hx rfl) (kk hn H locs ca hP hS hl ho)
  · cases hr
theorem rt_w_sv {k k2 : Nat} {v : Value} {st0 : List Value} (hv : rt_o1 v = true) (hr : rt_sv ls k k2 v st0 h = some (.inr (.inl (pc2, ls2, st2, h2)))) (kk : rt_W p l e R s mid args below meth c Q D cs b0 sA n0 m pc2 ls2 st2 h2)
    (row : ∀ {H : Heap} {locs : List Loc} {cells slots : Nat} {ca : Array Slot} {rest : List Value} {lv : List (Nat × Value)}, lv_has ca (rt_ml m) lv → k < rt_ml m → (∀ ca' : Array Slot, lv_has ca' (rt_ml m) ((k, rt_cv b0 sA v) :: lv.filter (fun q => !(q.1 == k) && !(q.1 + 1 == k && q.2.category == 2))) → W p l e R s mid args below meth c H locs cells slots Q (F0 mid k2 ca' rest)) → W p l e R s mid args below meth c H locs cells slots Q (F0 mid pc ca (rt_cv b0 sA v :: rest))) :
    rt_W p l e R s mid args below meth c Q D cs b0 sA n0 m pc ls (v :: st0) h := by
  unfold rt_sv at hr
  split at hr
  · rename_i u hu
    split at hr
    · rename_i hns
      obtain ⟨rfl, rfl, rfl, rfl⟩ := rt_go_inv hr
      intro hn H locs ca hP hS hl ho
      have hkl : k < ls.length := (List.getElem?_eq_some_iff.mp hu).1
      rw [ho.1] at hkl
      refine row hl hkl (fun ca' hl' => ?_)
      have hq := rt_lv_set (b0 := b0) (sA := sA) hu hns ho hv
      exact kk hn H locs ca' hP hS (rt_has_mono hl' hq.1) hq.2
    · cases hr
  · cases hr
theorem rt_w_i2 {f : Int32 → Int32 → Int32} (hr : rt_i2 f pc ls st h = some (.inr (.inl (pc2, ls2, st2, h2)))) (kk : rt_W p l e R s mid args below meth c Q D cs b0 sA n0 m pc2 ls2 st2 h2)
    (row : ∀ {H : Heap} {locs : List Loc} {cells slots : Nat} {ca : Array Slot} {rest : List Value} {x y : Int32}, W p l e R s mid args below meth c H locs cells slots Q (F0 mid (pc + 1) ca (.int (f x y) :: rest)) → W p l e R s mid args below meth c H locs cells slots Q (F0 mid pc ca (.int y :: .int x :: rest))) :
    rt_W p l e R s mid args below meth c Q D cs b0 sA n0 m pc ls st h := by
  unfold rt_i2 at hr
  split at hr
  · obtain ⟨rfl, rfl, rfl, rfl⟩ := rt_go_inv hr
    intro hn H locs ca hP hS hl ho
    exact row (kk hn H locs ca hP hS hl ho)
  · cases hr
theorem rt_w_l2 {f : Int64 → Int64 → Int64} (hr : rt_l2 f pc ls st h = some (.inr (.inl (pc2, ls2, st2, h2)))) (kk : rt_W p l e R s mid args below meth c Q D cs b0 sA n0 m pc2 ls2 st2 h2)
    (row : ∀ {H : Heap} {locs : List Loc} {cells slots : Nat} {ca : Array Slot} {rest : List Value} {x y : Int64}, W p l e R s mid args below meth c H locs cells slots Q (F0 mid (pc + 1) ca (.long (f x y) :: rest)) → W p l e R s mid args below meth c H locs cells slots Q (F0 mid pc ca (.long y :: .long x :: rest))) :
    rt_W p l e R s mid args below meth c Q D cs b0 sA n0 m pc ls st h := by
  unfold rt_l2 at hr
  split at hr
  · obtain ⟨rfl, rfl, rfl, rfl⟩ := rt_go_inv hr
    intro hn H locs ca hP hS hl ho
    exact row (kk hn H locs ca hP hS hl ho)
  · cases hr
/-- a step that leaves heap and locals: the new stack is given -/
theorem rt_w_st {pc3 : Nat} {st3 : List Value} (hr : rt_go pc3 ls st3 h = some (.inr (.inl (pc2, ls2, st2, h2)))) (kk : rt_W p l e R s mid args below meth c Q D cs b0 sA n0 m pc2 ls2 st2 h2)
    (row : ∀ {H : Heap} {locs : List Loc} {cells slots : Nat} {ca : Array Slot}, va_P D vwCl (rt_wd b0 cs h) H → W p l e R s mid args below meth c H locs cells slots Q (F0 mid pc3 ca (st3.map (rt_cv b0 sA))) → W p l e R s mid args below meth c H locs cells slots Q (F0 mid pc ca (st.map (rt_cv b0 sA)))) :
    rt_W p l e R s mid args below meth c Q D cs b0 sA n0 m pc ls st h := by
  obtain ⟨rfl, rfl, rfl, rfl⟩ := rt_go_inv hr
  intro hn H locs ca hP hS hl ho
  exact row hP (kk hn H locs ca hP hS hl ho)
/-- a step that writes one cell -/
theorem rt_w_wr {pc3 : Nat} {st3 : List Value} {h3 : rt_H} (hr : rt_go pc3 ls st3 h3 = some (.inr (.inl (pc2, ls2, st2, h2)))) (hh : h3.1 = h.1) (kk : rt_W p l e R s mid args below meth c Q D cs b0 sA n0 m pc2 ls2 st2 h2)
    (row : ∀ {H : Heap} {locs : List Loc} {cells slots : Nat} {ca : Array Slot}, va_P D vwCl (rt_wd b0 cs h) H → va_S (fun q => b0 ≤ q) s.heap H locs → (∀ (H1 : Heap) (locs1 : List Loc), va_P D vwCl (rt_wd b0 cs h3) H1 → va_S (fun q => b0 ≤ q) s.heap H1 locs1 → W p l e R s mid args below meth c H1 locs1 cells slots Q (F0 mid pc3 ca (st3.map (rt_cv b0 sA)))) → W p l e R s mid args below meth c H locs cells slots Q (F0 mid pc ca (st.map (rt_cv b0 sA)))) :
    rt_W p l e R s mid args below meth c Q D cs b0 sA n0 m pc ls st h := by
  obtain ⟨rfl, rfl, rfl, rfl⟩ := rt_go_inv hr
  intro hn H locs ca hP hS hl ho
  refine row hP hS (fun H1 locs1 hP1 hS1 => ?_)
  rw [← hh]
  exact kk (by rw [hh]; exact hn) H1 locs1 ca hP1 hS1 hl ho
theorem rt_w_br {b : Bool} {off : Int} {r : List Value} (hr : rt_br b pc off ls r h = some (.inr (.inl (pc2, ls2, st2, h2)))) (kk : rt_W p l e R s mid args below meth c Q D cs b0 sA n0 m pc2 ls2 st2 h2)
    (row : ∀ {H : Heap} {locs : List Loc} {cells slots : Nat} {ca : Array Slot} {tgt : Nat}, (pc : Int) + off = (tgt : Int) → (b = true → W p l e R s mid args below meth c H locs cells slots Q (F0 mid tgt ca (r.map (rt_cv b0 sA)))) → (b = false → W p l e R s mid args below meth c H locs cells slots Q (F0 mid (pc + 3) ca (r.map (rt_cv b0 sA)))) → W p l e R s mid args below meth c H locs cells slots Q (F0 mid pc ca (st.map (rt_cv b0 sA)))) :
    rt_W p l e R s mid args below meth c Q D cs b0 sA n0 m pc ls st h := by
  unfold rt_br at hr
  split at hr
  · rename_i t ht
    intro hn H locs ca hP hS hl ho
    refine row (rt_tg_spec ht) (fun hb => ?_) (fun hb => ?_)
    · rw [if_pos hb] at hr
      obtain ⟨rfl, rfl, rfl, rfl⟩ := rt_go_inv hr
      exact kk hn H locs ca hP hS hl ho
    · rw [if_neg (by rw [hb]; decide)] at hr
      obtain ⟨rfl, rfl, rfl, rfl⟩ := rt_go_inv hr
      exact kk hn H locs ca hP hS hl ho
  · cases hr
theorem rt_w_sw {off : Option Int} {r : List Value} (hr : rt_sw pc off ls r h = some (.inr (.inl (pc2, ls2, st2, h2)))) (kk : rt_W p l e R s mid args below meth c Q D cs b0 sA n0 m pc2 ls2 st2 h2)
    (row : ∀ {H : Heap} {locs : List Loc} {cells slots : Nat} {ca : Array Slot} {o : Int} {tgt : Nat}, off = some o → (pc : Int) + o = (tgt : Int) → W p l e R s mid args below meth c H locs cells slots Q (F0 mid tgt ca (r.map (rt_cv b0 sA))) → W p l e R s mid args below meth c H locs cells slots Q (F0 mid pc ca (st.map (rt_cv b0 sA)))) :
    rt_W p l e R s mid args below meth c Q D cs b0 sA n0 m pc ls st h := by
  unfold rt_sw at hr
  split at hr
  · rename_i o
    split at hr
    · rename_i t ht
      obtain ⟨rfl, rfl, rfl, rfl⟩ := rt_go_inv hr
      intro hn H locs ca hP hS hl ho
      exact row rfl (rt_tg_spec ht) (kk hn H locs ca hP hS hl ho)
    · cases hr
  · cases hr
end RTW

theorem rt_wl_of {i : Instr} {len : Nat} (hw : rt_wl i = 0 ∨ len = rt_wl i) (n : Nat) (h : rt_wl i = n + 1) : len = n + 1 := by
  rcases hw with hw | hw
  · rw [h] at hw; cases hw
  · exact hw.trans h
/-- what is asked of the string constant: Zs holds what is known of it -/
def rt_Zok (b0 : Nat) (sA : Nat → Nat) (Zs : State → Prop) : Prop :=
  (∀ s U : State, Zs s → s.WarmedH U.vm → (∀ q : Nat, q < b0 → U.heap[q]? = s.heap[q]?) → Zs U) ∧
  (∀ (U : State) (g : JFrame) (mk : MethodId) (a : Array Value), Zs U → Zs (U.calling g mk a)) ∧
  (∀ (p : Program) (l : Launch) (e : Env) (R : Room) (s : State) (mid : MethodId) (args : Array Value) (below : List Frame) (meth : Method) (c : Code) (Q : State → Prop) (cc : ByteArray) (pc : Nat) (H : Heap) (locs : List Loc) (cells slots : Nat) (ca : Array Slot) (rest : List Value), p.tables.exec = Jvm.exec → c.code = cc → s.vm.findClass RX8 = some mid.cls → Zs s → decode cc pc = .ok (.ldc 69, 2) →
    W p l e R s mid args below meth c H locs cells slots Q (F0 mid (pc + 2) ca (.ref (sA 0) :: rest)) → W p l e R s mid args below meth c H locs cells slots Q (F0 mid pc ca rest)) ∧
  (∀ (p : Program) (l : Launch) (e : Env) (R : Room) (s : State) (mid : MethodId) (args : Array Value) (below : List Frame) (meth : Method) (c : Code) (Q : State → Prop) (D : va_G) (cs : Nat → ClassId) (n0 ne m pc idx x1 x2 x4 x5 x6 x7 x8 : Nat) (H : Heap) (locs : List Loc) (cells slots : Nat) (ca : Array Slot) (rest : List Value), rt_Cx p R s mid args meth c D cs b0 n0 ne m → Zs s → decode (rt_code m) pc = .ok (.invokevirtual idx, 3) → rt_ca (rt_own m) idx = some (x1, x2, 6, x4, x5, x6, x7, x8) → 3 ≤ rt_rf m → 60 ≤ rt_rl m → (rest.map fun v => v.category).sum ≤ 8 → cells ≤ R.cells → slots ≤ R.slots → ca.size = rt_ml m → va_S (fun q => b0 ≤ q) s.heap H locs →
    W p l e R s mid args below meth c H locs cells slots Q (F0 mid (pc + 3) ca (.int (nI rt_strL) :: rest)) → W p l e R s mid args below meth c H locs cells slots Q (F0 mid pc ca (.ref (sA 0) :: rest))) ∧
  (∀ (p : Program) (l : Launch) (e : Env) (R : Room) (s : State) (mid : MethodId) (args : Array Value) (below : List Frame) (meth : Method) (c : Code) (Q : State → Prop) (D : va_G) (cs : Nat → ClassId) (n0 ne m pc idx x1 x2 x4 x5 x6 x7 x8 : Nat) (H : Heap) (locs : List Loc) (cells slots : Nat) (ca : Array Slot) (rest : List Value) (x : Int32), rt_Cx p R s mid args meth c D cs b0 n0 ne m → Zs s → decode (rt_code m) pc = .ok (.invokevirtual idx, 3) → rt_ca (rt_own m) idx = some (x1, x2, 7, x4, x5, x6, x7, x8) → 5 ≤ rt_rf m → 100 ≤ rt_rl m → (rest.map fun v => v.category).sum ≤ 8 → rt_in x rt_strL = true → cells ≤ R.cells → slots ≤ R.slots → ca.size = rt_ml m → va_S (fun q => b0 ≤ q) s.heap H locs →
    W p l e R s mid args below meth c H locs cells slots Q (F0 mid (pc + 3) ca (.int (nI (rt_strB.getD x.toNatClampNeg 0)) :: rest)) → W p l e R s mid args below meth c H locs cells slots Q (F0 mid pc ca (.int x :: .ref (sA 0) :: rest)))
section RTG
variable {p : Program} {l : Launch} {e : Env} {R : Room} {s : State} {mid : MethodId} {args : Array Value} {below : List Frame} {meth : Method} {c : Code} {Q : State → Prop} {D : va_G} {cs : Nat → ClassId} {b0 : Nat} {sA : Nat → Nat} {n0 ne m pc pc2 : Nat} {ls st ls2 st2 : List Value} {h h2 : rt_H} {Zs : State → Prop}
theorem rt_o1cat {v : Value} (h : rt_o1 v = true) : (rt_cv b0 sA v).category = 1 := by
  cases v <;> first | rfl | cases h
theorem rt_w_lstore {k : Fin 4} {x : Int64} {r : List Value} {u : Value} (hx : p.tables.exec = Jvm.exec) (hb : c.code = rt_code m) (hd : decode (rt_code m) pc = .ok (.lstore_n k, 1)) (hu : ls[k.val]? = some u) (hc : (rt_ns u && decide (k.val + 1 < ls.length)) = true)
    (hr : rt_go (pc + 1) ((ls.set k.val (.long x)).set (k.val + 1) (.double 0)) r h = some (.inr (.inl (pc2, ls2, st2, h2)))) (kk : rt_W p l e R s mid args below meth c Q D cs b0 sA n0 m pc2 ls2 st2 h2) :
    rt_W p l e R s mid args below meth c Q D cs b0 sA n0 m pc ls (.long x :: r) h := by
  obtain ⟨rfl, rfl, rfl, rfl⟩ := rt_go_inv hr
  rw [Bool.and_eq_true, decide_eq_true_eq] at hc
  intro hn H locs ca hP hS hl ho
  have hk1 : k.val + 1 < ls.length := hc.2
  have hk0 : k.val < ls.length := by omega
  refine lv_lstore_n hx hb hd rfl hl (by rw [← ho.1]; exact hk1) rfl (fun ca' hl' => ?_)
  refine kk hn H locs ca' hP hS (rt_has_mono hl' (fun q hq => ?_)) ⟨by rw [List.length_set, List.length_set]; exact ho.1, fun j y hj => ?_⟩
  · obtain ⟨w, h1, h2, h3⟩ := rt_lv_mem.mp hq
    by_cases e1 : q.1 = k.val + 1
    · rw [e1, List.getElem?_set_self (by rw [List.length_set]; exact hk1)] at h1
      cases h1
      cases h2
    · rw [List.getElem?_set_ne (Ne.symm e1)] at h1
      by_cases e2 : q.1 = k.val
      · rw [e2, List.getElem?_set_self hk0] at h1
        cases h1
        obtain ⟨i, z⟩ := q
        dsimp only at e2 h3
        subst e2; subst h3
        exact List.mem_cons_self
      · rw [List.getElem?_set_ne (Ne.symm e2)] at h1
        refine List.mem_cons_of_mem _ (List.mem_filter.mpr ⟨rt_lv_mem.mpr ⟨w, h1, h2, h3⟩, ?_⟩)
        simp only [Bool.and_eq_true, Bool.not_eq_true', beq_eq_false_iff_ne, ne_eq, Bool.and_eq_false_iff]
        refine ⟨e2, e1, ?_⟩
        by_cases hq1 : q.1 + 1 = k.val
        · right
          intro hc2
          rw [h3, rt_cv_cat] at hc2
          cases w with
          | long y =>
            have := ho.2 _ _ h1
            rw [hq1, hu] at this
            cases this
            exact absurd hc.1 (by decide)
          | float _ => cases h2
          | double _ => cases h2
          | null => cases h2
          | _ => exact absurd hc2 (by simp [Value.category])
        · exact Or.inl hq1
  · by_cases e1 : j = k.val + 1
    · rw [e1, List.getElem?_set_self (by rw [List.length_set]; exact hk1)] at hj
      cases hj
    · rw [List.getElem?_set_ne (Ne.symm e1)] at hj
      by_cases e2 : j = k.val
      · rw [e2]
        exact List.getElem?_set_self (by rw [List.length_set]; exact hk1)
      · rw [List.getElem?_set_ne (Ne.symm e2)] at hj
        have h5 := ho.2 j y hj
        by_cases e3 : j + 1 = k.val
        · rw [e3, hu] at h5
          cases h5
          exact absurd hc.1 (by decide)
        · by_cases e4 : j + 1 = k.val + 1
          · omega
          · rw [List.getElem?_set_ne (Ne.symm e4), List.getElem?_set_ne (Ne.symm e3)]
            exact h5
theorem rt_w_iinc {k : Nat} {n : Int} {x : Int32} (hx : p.tables.exec = Jvm.exec) (hb : c.code = rt_code m) (hd : decode (rt_code m) pc = .ok (.iinc k n, 3)) (hk : ls[k]? = some (.int x))
    (hr : rt_go (pc + 3) (ls.set k (.int (x + Int32.ofInt n))) st h = some (.inr (.inl (pc2, ls2, st2, h2)))) (kk : rt_W p l e R s mid args below meth c Q D cs b0 sA n0 m pc2 ls2 st2 h2) :
    rt_W p l e R s mid args below meth c Q D cs b0 sA n0 m pc ls st h := by
  obtain ⟨rfl, rfl, rfl, rfl⟩ := rt_go_inv hr
  intro hn H locs ca hP hS hl ho
  obtain ⟨i, hi⟩ := List.getElem?_of_mem (rt_lv_mem (b0 := b0) (sA := sA) (q := (k, .int x)) |>.mpr ⟨_, hk, rfl, rfl⟩)
  have hkl : k < ls.length := (List.getElem?_eq_some_iff.mp hk).1
  have hq := rt_lv_set (b0 := b0) (sA := sA) (v := .int (x + Int32.ofInt n)) hk rfl ho rfl
  exact lv_iinc hx hb hd hl hi rfl (by rw [← ho.1]; exact hkl) rfl (fun ca' hl' => kk hn H locs ca' hP hS (rt_has_mono hl' hq.1) hq.2)
theorem rt_w_copy (C : rt_Cx p R s mid args meth c D cs b0 n0 ne m) {idx a b x1 x2 x4 x5 x6 x7 x8 : Nat} {n dp sp : Int32} {r : List Value} (hd : decode (rt_code m) pc = .ok (.invokestatic idx, 3)) (hf : rt_ca (rt_own m) idx = some (x1, x2, 5, x4, x5, x6, x7, x8))
    (hc : 1 ≤ rt_rf m ∧ rt_cs r + 40 ≤ rt_rl m ∧ rt_ar h.1 a 1 ∧ rt_ar h.1 b 1 ∧ a ≠ b ∧ 0 ≤ n ∧ 0 ≤ sp ∧ 0 ≤ dp ∧ sp.toNatClampNeg + n.toNatClampNeg ≤ rt_ln a ∧ dp.toNatClampNeg + n.toNatClampNeg ≤ rt_ln b)
    (hr : rt_go (pc + 3) ls r (h.1, rt_row h.2.1 b (va_cpy (h.2.1 a) (h.2.1 b) sp.toNatClampNeg dp.toNatClampNeg n.toNatClampNeg), h.2.2.1, h.2.2.2) = some (.inr (.inl (pc2, ls2, st2, h2)))) (kk : rt_W p l e R s mid args below meth c Q D cs b0 sA n0 m pc2 ls2 st2 h2) :
    rt_W p l e R s mid args below meth c Q D cs b0 sA n0 m pc ls (.int n :: .int dp :: .ref b :: .int sp :: .ref a :: r) h := by
  obtain ⟨rfl, rfl, rfl, rfl⟩ := rt_go_inv hr
  obtain ⟨hx, hb, hml, hown, hts, hret, hlk, hnm, hsz, hK, hN, hR⟩ := C
  obtain ⟨c1, c2, c3, c4, c5, c6, c7, c8, c9, c10⟩ := hc
  obtain ⟨e1, e2, e3⟩ := rt_caAt hf
  dsimp only at e1 e2
  subst e1; subst e2
  simp only [rt_cac, Bool.and_eq_true, decide_eq_true_eq] at e3
  obtain ⟨⟨⟨t1, t2⟩, t3⟩, t4⟩ := e3
  intro hn H locs ca hP hS hl ho
  refine va_copyi (ty := .int) hx hb (by rw [hml, hl.1]) hown (hts _ (rt_inAt t1 rfl)) (hts _ (rt_inAt t2 rfl)) (hts _ (rt_inAt t3 rfl)) (hts _ (rt_inAt t4 rfl)) hK hP rt_wd_D hS a b 0 0 (rt_a1 c3) (rt_a1 c4) rfl rfl rfl (by rw [Int32.not_lt]; exact c7) (by rw [Int32.not_lt]; exact c8) (by rw [Int32.not_lt]; exact c6) c9 c10 (fun _ _ => rfl) (by rw [hR]; exact c1) (by
    rw [hR, rt_cv_cs]
    show rt_cs _ + (nativeFrameWords "java/lang/System" "arraycopy" 5 + 11) ≤ rt_rl m
    have : nativeFrameWords "java/lang/System" "arraycopy" 5 = 7 := by decide +kernel
    omega) hd (fun H1 locs1 hP1 _ hS1 => ?_)
  rw [rt_wd_set (I := h.2.1) (L := h.2.2.1) (R := h.2.2.2) (I' := rt_row h.2.1 b (va_cpy (h.2.1 a) (h.2.1 b) sp.toNatClampNeg dp.toNatClampNeg n.toNatClampNeg)) (L' := h.2.2.1) (R' := h.2.2.2) (rt_arAt c4).1 (fun _ hj => rt_row_ne hj) (fun _ _ => rfl) (fun _ _ => rfl) (by rw [rt_en1 (rt_arAt c4).2, rt_row_at]; rfl)] at hP1
  exact kk hn H1 locs1 ca hP1 hS1 hl ho
end RTG

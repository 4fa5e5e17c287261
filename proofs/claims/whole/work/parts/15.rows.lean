section RTR
variable {p : Program} {l : Launch} {e : Env} {R : Room} {s : State} {mid : MethodId} {args : Array Value} {below : List Frame} {meth : Method} {c : Code} {Q : State → Prop} {D : va_G} {cs : Nat → ClassId} {b0 : Nat} {sA : Nat → Nat} {n0 ne m pc pc2 : Nat} {ls st ls2 st2 : List Value} {h h2 : rt_H}
theorem rt_obj {i ci : Nat} (ho : rt_ob h.1 i ci = true) : (rt_wd b0 cs h)[i]? = some (b0 + i, .inr (ci, rt_fs b0 (h.2.1 i) (h.2.2.1 i) (h.2.2.2 i) ci)) := by
  obtain ⟨h1, h3⟩ := rt_obAt ho
  rw [rt_wd_at h1, rt_enO h3]
theorem rt_get (C : rt_Cx p R s mid args meth c D cs b0 n0 ne m) {idx o' idx' ci k z ps i : Nat} (hd : decode (rt_code m) pc = .ok (.getfield idx, 3)) (hf : rt_fd (rt_own m) idx = some (o', idx', ci, k, z, ps)) (ho : rt_ob h.1 i ci = true)
    {H : Heap} {locs : List Loc} {cells slots : Nat} {ca : Array Slot} {rest : List Value} {v : Value} (hP : va_P D vwCl (rt_wd b0 cs h) H) (hv : rt_fv b0 (h.2.1 i) (h.2.2.1 i) (h.2.2.2 i) ci k = v)
    (kk : W p l e R s mid args below meth c H locs cells slots Q (F0 mid (pc + 3) ca (v :: rest))) : W p l e R s mid args below meth c H locs cells slots Q (F0 mid pc ca (.ref (b0 + i) :: rest)) := by
  obtain ⟨hx, hb, hml, hown, hts, hret, hlk, hnm, hsz, hK, hN, hR⟩ := C
  obtain ⟨hci, hk, h0, h1⟩ := rt_fdAt hf
  have hfs : (rt_fs b0 (h.2.1 i) (h.2.2.1 i) (h.2.2.2 i) ci)[k]? = some v := by rw [rt_fs_at hk, hv]
  by_cases hz : z = 0
  · exact va_get (ref := (rt_tb ci k).1) hx hb hts (rt_inAll hci) hown hK hP i (rt_obj ho) (rt_clAt hci) k hk (hts _ (h0 hz)) (fun _ h9 => h9) hfs hd kk
  · exact va_getN (ref := (rt_tb ci k).1) hx hb hts (rt_inAll hci) hown hK hP i (rt_obj ho) (rt_clAt hci) k hk (va_Nw.use rfl (hN.1 _ (h1 hz))) (fun _ h9 => h9) hfs hd kk
theorem rt_w_getf (C : rt_Cx p R s mid args meth c D cs b0 n0 ne m) {idx : Nat} (hd : decode (rt_code m) pc = .ok (.getfield idx, 3)) (hr : rt_getf (rt_own m) idx pc ls st h = some (.inr (.inl (pc2, ls2, st2, h2)))) (kk : rt_W p l e R s mid args below meth c Q D cs b0 sA n0 m pc2 ls2 st2 h2) :
    rt_W p l e R s mid args below meth c Q D cs b0 sA n0 m pc ls st h := by
  unfold rt_getf at hr
  split at hr
  · rename_i i r
    split at hr
    · rename_i ci k z ps hf
      split at hr
      · rename_i ho
        split at hr
        · rename_i hft
          exact rt_w_st hr kk (fun hP k => rt_get C hd hf ho hP (by unfold rt_fv; rw [hft]; rfl) k)
        · rename_i hft
          exact rt_w_st hr kk (fun hP k => rt_get C hd hf ho hP (by unfold rt_fv; rw [hft]; rfl) k)
        · rename_i hft
          exact rt_w_st hr kk (fun hP k => rt_get C hd hf ho hP (by unfold rt_fv; rw [hft]; rfl) k)
        · rename_i hft
          split at hr
          · rename_i j hj
            exact rt_w_st hr kk (fun hP k => rt_get C hd hf ho hP (by unfold rt_fv; rw [hft, hj]; rfl) k)
          · cases hr
        · cases hr
      · cases hr
    · cases hr
  · cases hr
theorem rt_put (C : rt_Cx p R s mid args meth c D cs b0 n0 ne m) {idx o' idx' ci k z ps i : Nat} (hd : decode (rt_code m) pc = .ok (.putfield idx, 3)) (hf : rt_fd (rt_own m) idx = some (o', idx', ci, k, z, ps))
    (ho : (rt_ob h.1 i ci && z == 0 && (!rt_fin ci k || ((rt_nm m).name == "<init>" && rt_own m == ci))) = true) {v : Value} (hn : narrow (rt_ty ci k) v = v) (hfit : fits (rt_ty ci k) v = true)
    {I' : Nat → Nat → Int32} {L' : Nat → Nat → Int64} {R' : Nat → Nat → Option Nat}
    (h1 : ∀ j, j ≠ i → I' j = h.2.1 j) (h2 : ∀ j, j ≠ i → L' j = h.2.2.1 j) (h3 : ∀ j, j ≠ i → R' j = h.2.2.2 j) (g1 : ∀ j, j ≠ k → I' i j = h.2.1 i j) (g2 : ∀ j, j ≠ k → L' i j = h.2.2.1 i j) (g3 : ∀ j, j ≠ k → R' i j = h.2.2.2 i j)
    (hv : rt_fv b0 (I' i) (L' i) (R' i) ci k = v)
    {H : Heap} {locs : List Loc} {cells slots : Nat} {ca : Array Slot} {rest : List Value} (hP : va_P D vwCl (rt_wd b0 cs h) H) (hS : va_S (fun q => b0 ≤ q) s.heap H locs)
    (kk : ∀ (H1 : Heap) (locs1 : List Loc), va_P D vwCl (rt_wd b0 cs (h.1, I', L', R')) H1 → va_S (fun q => b0 ≤ q) s.heap H1 locs1 → W p l e R s mid args below meth c H1 locs1 cells slots Q (F0 mid (pc + 3) ca rest)) : W p l e R s mid args below meth c H locs cells slots Q (F0 mid pc ca (v :: .ref (b0 + i) :: rest)) := by
  obtain ⟨hx, hb, hml, hown, hts, hret, hlk, hnm, hsz, hK, hN, hR⟩ := C
  obtain ⟨hci, hk, hl0, -⟩ := rt_fdAt hf
  simp only [Bool.and_eq_true, beq_iff_eq] at ho
  obtain ⟨⟨ho, hz⟩, hfin⟩ := ho
  obtain ⟨hi, hkd⟩ := rt_obAt ho
  obtain ⟨-, f2, f3⟩ := rt_ftAt hci hk
  have hw : (rt_wd b0 cs h).set i (b0 + i, .inr (ci, (rt_fs b0 (h.2.1 i) (h.2.2.1 i) (h.2.2.2 i) ci).set k v)) = rt_wd b0 cs (h.1, I', L', R') :=
    rt_wd_set (I := h.2.1) (L := h.2.2.1) (R := h.2.2.2) hi h1 h2 h3 (by rw [rt_enO hkd, rt_fs_set g1 g2 g3 hv])
  by_cases hff : rt_fin ci k = true
  · rw [hff] at hfin
    simp only [Bool.not_true, Bool.false_or, Bool.and_eq_true, beq_iff_eq] at hfin
    refine va_putF (ref := (rt_tb ci k).1) hx hb hts (rt_inAll hci) (rt_ty ci) (rt_tyAll hci) (rt_nmAll hci) hown hK hP rt_wd_D hS i (rt_obj ho) (rt_clAt hci) k hk (hts _ (hl0 hz)) (fun _ h9 => h9) (f3.trans hff) (hnm.trans hfin.1) (by rw [f2, hfin.2]) (rt_tyAll hci k hk) hn hfit (by rw [rt_fs_len]; exact hk) hd (fun H1 locs1 hP1 _ hS1 => ?_)
    rw [hw] at hP1
    exact kk H1 locs1 hP1 hS1
  · refine va_put (ref := (rt_tb ci k).1) hx hb hts (rt_inAll hci) (rt_ty ci) (rt_tyAll hci) (rt_nmAll hci) hown hK hP rt_wd_D hS i (rt_obj ho) (rt_clAt hci) k hk (hts _ (hl0 hz)) (fun _ h9 => h9) (by rw [f3]; simpa using hff) (rt_tyAll hci k hk) hn hfit (by rw [rt_fs_len]; exact hk) hd (fun H1 locs1 hP1 _ hS1 => ?_)
    rw [hw] at hP1
    exact kk H1 locs1 hP1 hS1
theorem rt_ty0 {ci k : Nat} (h : ci < 11) (hk : k < rt_nf ci) (hf : rt_ft ci k = 0) : rt_ty ci k = .int := by
  have := (rt_ftAt h hk).1
  rw [hf] at this
  cases hq : rt_ty ci k <;> rw [hq] at this <;> first | rfl | cases this
theorem rt_ty1 {ci k : Nat} (h : ci < 11) (hk : k < rt_nf ci) (hf : rt_ft ci k = 1) : rt_ty ci k = .boolean := by
  have := (rt_ftAt h hk).1
  rw [hf] at this
  cases hq : rt_ty ci k <;> rw [hq] at this <;> first | rfl | cases this
theorem rt_ty2 {ci k : Nat} (h : ci < 11) (hk : k < rt_nf ci) (hf : rt_ft ci k = 2) : rt_ty ci k = .long := by
  have := (rt_ftAt h hk).1
  rw [hf] at this
  cases hq : rt_ty ci k <;> rw [hq] at this <;> first | rfl | cases this
theorem rt_ty3 {ci k : Nat} (h : ci < 11) (hk : k < rt_nf ci) (hf : rt_ft ci k = 3) (a : Nat) : narrow (rt_ty ci k) (.ref a) = .ref a ∧ fits (rt_ty ci k) (.ref a) = true := by
  have := (rt_ftAt h hk).1
  rw [hf] at this
  cases hq : rt_ty ci k <;> rw [hq] at this <;> first | exact ⟨rfl, rfl⟩ | cases this
theorem rt_bo2 {x : Int32} (h : rt_bo x = true) : narrow .boolean (.int x) = .int x ∧ fits .boolean (.int x) = true := by
  simp only [rt_bo, decide_eq_true_eq] at h
  rcases h with rfl | rfl <;> exact ⟨by decide +kernel, by decide +kernel⟩
theorem rt_up_atne {α : Type} {f : Nat → Nat → α} {i k : Nat} {v : α} : ∀ j, j ≠ k → rt_up f i k v i j = f i j := fun j hj => by rw [rt_up_at]; simp [hj]
theorem rt_up_self {α : Type} {f : Nat → Nat → α} {i k : Nat} {v : α} : rt_up f i k v i k = v := by rw [rt_up_at]; simp
theorem rt_w_putf (C : rt_Cx p R s mid args meth c D cs b0 n0 ne m) {idx : Nat} (hd : decode (rt_code m) pc = .ok (.putfield idx, 3)) (hr : rt_putf m idx pc ls st h = some (.inr (.inl (pc2, ls2, st2, h2)))) (kk : rt_W p l e R s mid args below meth c Q D cs b0 sA n0 m pc2 ls2 st2 h2) :
    rt_W p l e R s mid args below meth c Q D cs b0 sA n0 m pc ls st h := by
  unfold rt_putf at hr
  split at hr
  · rename_i v i r
    split at hr
    · rename_i ci k z ps hf
      split at hr
      · rename_i ho
        obtain ⟨hci, hk, -, -⟩ := rt_fdAt hf
        split at hr
        · rename_i x hft
          exact rt_w_wr hr rfl kk (fun hP hS k => rt_put C hd hf ho (v := .int x) (by rw [rt_ty0 hci hk hft]; rfl) (by rw [rt_ty0 hci hk hft]; rfl) (fun j hj => rt_up_ne hj) (fun _ _ => rfl) (fun _ _ => rfl) rt_up_atne (fun _ _ => rfl) (fun _ _ => rfl) (by unfold rt_fv; rw [hft]; show Value.int _ = _; rw [rt_up_self]) hP hS k)
        · rename_i x hft
          split at hr
          · rename_i hbo
            exact rt_w_wr hr rfl kk (fun hP hS k => rt_put C hd hf ho (v := .int x) (by rw [rt_ty1 hci hk hft]; exact (rt_bo2 hbo).1) (by rw [rt_ty1 hci hk hft]; exact (rt_bo2 hbo).2) (fun j hj => rt_up_ne hj) (fun _ _ => rfl) (fun _ _ => rfl) rt_up_atne (fun _ _ => rfl) (fun _ _ => rfl) (by unfold rt_fv; rw [hft]; show Value.int _ = _; rw [rt_up_self]) hP hS k)
          · cases hr
        · rename_i x hft
          exact rt_w_wr hr rfl kk (fun hP hS k => rt_put C hd hf ho (v := .long x) (by rw [rt_ty2 hci hk hft]; rfl) (by rw [rt_ty2 hci hk hft]; rfl) (fun _ _ => rfl) (fun j hj => rt_up_ne hj) (fun _ _ => rfl) (fun _ _ => rfl) rt_up_atne (fun _ _ => rfl) (by unfold rt_fv; rw [hft]; show Value.long _ = _; rw [rt_up_self]) hP hS k)
        · rename_i j hft
          exact rt_w_wr hr rfl kk (fun hP hS k => rt_put C hd hf ho (v := .ref (b0 + j)) (rt_ty3 hci hk hft _).1 (rt_ty3 hci hk hft _).2 (fun _ _ => rfl) (fun _ _ => rfl) (fun j hj => rt_up_ne hj) (fun _ _ => rfl) (fun _ _ => rfl) rt_up_atne (by unfold rt_fv; rw [hft]; show va_rf (Option.map _ _) = _; rw [rt_up_self]; rfl) hP hS k)
        · cases hr
      · cases hr
    · cases hr
  · cases hr
end RTR

section RTA
variable {p : Program} {l : Launch} {e : Env} {R : Room} {s : State} {mid : MethodId} {args : Array Value} {below : List Frame} {meth : Method} {c : Code} {Q : State → Prop} {D : va_G} {cs : Nat → ClassId} {b0 : Nat} {sA : Nat → Nat} {n0 ne m pc pc2 : Nat} {ls st ls2 st2 : List Value} {h h2 : rt_H}
theorem rt_a1 {a : Nat} (ha : rt_ar h.1 a 1 = true) : (rt_wd b0 cs h)[a]? = some (b0 + a, .inl (cs 1, rt_ln a, .inl (h.2.1 a))) := by rw [rt_wd_at (rt_arAt ha).1, rt_en1 (rt_arAt ha).2]; rfl
theorem rt_a2 {a : Nat} (ha : rt_ar h.1 a 2 = true) : (rt_wd b0 cs h)[a]? = some (b0 + a, .inl (cs 2, rt_ln a, .inl (h.2.1 a))) := by rw [rt_wd_at (rt_arAt ha).1, rt_en2 (rt_arAt ha).2]; rfl
theorem rt_a3 {a : Nat} (ha : rt_ar h.1 a 3 = true) : (rt_wd b0 cs h)[a]? = some (b0 + a, .inl (cs 3, rt_ln a, .inl (h.2.1 a))) := by rw [rt_wd_at (rt_arAt ha).1, rt_en3 (rt_arAt ha).2]; rfl
theorem rt_a4 {a : Nat} (ha : rt_ar h.1 a 4 = true) : (rt_wd b0 cs h)[a]? = some (b0 + a, .inl (cs 4, rt_ln a, .inr (.inl (h.2.2.1 a)))) := by rw [rt_wd_at (rt_arAt ha).1, rt_en4 (rt_arAt ha).2]; rfl
theorem rt_a5 {a : Nat} (ha : rt_ar h.1 a 5 = true) : (rt_wd b0 cs h)[a]? = some (b0 + a, .inl (cs 5, rt_ln a, .inr (.inr (.inr (.inr (fun k => (h.2.2.2 a k).map (b0 + ·))))))) := by rw [rt_wd_at (rt_arAt ha).1, rt_en5 (rt_arAt ha).2]; rfl
/-- a row of ints is written -/
theorem rt_wdI {a k : Nat} {x : Int32} {cA : ClassId} (ha : a < h.1) (he : ∀ fi : Nat → Int32, rt_en b0 cs (rt_kd a) fi (h.2.2.1 a) (h.2.2.2 a) = .inl (cA, rt_ln a, .inl fi)) :
    (rt_wd b0 cs h).set a (b0 + a, .inl (cA, rt_ln a, .inl (upd (h.2.1 a) k x))) = rt_wd b0 cs (h.1, rt_up h.2.1 a k x, h.2.2.1, h.2.2.2) :=
  rt_wd_set (I := h.2.1) (L := h.2.2.1) (R := h.2.2.2) ha (fun _ hj => rt_up_ne hj) (fun _ _ => rfl) (fun _ _ => rfl) (by rw [he, rt_up_at]; rfl)
theorem rt_w_iast (C : rt_Cx p R s mid args meth c D cs b0 n0 ne m) {a : Nat} {x v : Int32} {r : List Value} (hd : decode (rt_code m) pc = .ok (.iastore, 1)) (hc : (rt_ar h.1 a 1 && rt_in x (rt_ln a)) = true)
    (hr : rt_go (pc + 1) ls r (h.1, rt_up h.2.1 a x.toNatClampNeg v, h.2.2.1, h.2.2.2) = some (.inr (.inl (pc2, ls2, st2, h2)))) (kk : rt_W p l e R s mid args below meth c Q D cs b0 sA n0 m pc2 ls2 st2 h2) :
    rt_W p l e R s mid args below meth c Q D cs b0 sA n0 m pc ls (.int v :: .int x :: .ref a :: r) h := by
  obtain ⟨hx, hb, hml, hown, hts, hret, hlk, hnm, hsz, hK, hN, hR⟩ := C
  rw [Bool.and_eq_true] at hc
  refine rt_w_wr hr rfl kk (fun hP hS k => ?_)
  refine va_iast hx hb hK hP rt_wd_D hS a 0 (rt_a1 hc.1) rfl (rt_inIn hc.2) hd (fun H1 locs1 hP1 _ hS1 => k H1 locs1 ?_ hS1)
  rw [rt_wdI (rt_arAt hc.1).1 (fun _ => rt_en1 (rt_arAt hc.1).2)] at hP1
  exact hP1
theorem rt_w_bast (C : rt_Cx p R s mid args meth c D cs b0 n0 ne m) {a : Nat} {x v : Int32} {r : List Value} (hd : decode (rt_code m) pc = .ok (.bastore, 1)) (hc : (rt_ar h.1 a 2 && rt_in x (rt_ln a)) = true)
    (hr : rt_go (pc + 1) ls r (h.1, rt_up h.2.1 a x.toNatClampNeg v.toInt8.toInt32, h.2.2.1, h.2.2.2) = some (.inr (.inl (pc2, ls2, st2, h2)))) (kk : rt_W p l e R s mid args below meth c Q D cs b0 sA n0 m pc2 ls2 st2 h2) :
    rt_W p l e R s mid args below meth c Q D cs b0 sA n0 m pc ls (.int v :: .int x :: .ref a :: r) h := by
  obtain ⟨hx, hb, hml, hown, hts, hret, hlk, hnm, hsz, hK, hN, hR⟩ := C
  rw [Bool.and_eq_true] at hc
  refine rt_w_wr hr rfl kk (fun hP hS k => ?_)
  refine va_bast hx hb hK hP rt_wd_D hS a 1 (rt_a2 hc.1) rfl (rt_inIn hc.2) hd (fun H1 locs1 hP1 _ hS1 => k H1 locs1 ?_ hS1)
  rw [vp_nar_byte, rt_wdI (rt_arAt hc.1).1 (fun _ => rt_en2 (rt_arAt hc.1).2)] at hP1
  exact hP1
theorem rt_w_zast (C : rt_Cx p R s mid args meth c D cs b0 n0 ne m) {a : Nat} {x v : Int32} {r : List Value} (hd : decode (rt_code m) pc = .ok (.bastore, 1)) (hc : (rt_ar h.1 a 3 && rt_in x (rt_ln a)) = true)
    (hr : rt_go (pc + 1) ls r (h.1, rt_up h.2.1 a x.toNatClampNeg (vp_nar .boolean v), h.2.2.1, h.2.2.2) = some (.inr (.inl (pc2, ls2, st2, h2)))) (kk : rt_W p l e R s mid args below meth c Q D cs b0 sA n0 m pc2 ls2 st2 h2) :
    rt_W p l e R s mid args below meth c Q D cs b0 sA n0 m pc ls (.int v :: .int x :: .ref a :: r) h := by
  obtain ⟨hx, hb, hml, hown, hts, hret, hlk, hnm, hsz, hK, hN, hR⟩ := C
  rw [Bool.and_eq_true] at hc
  refine rt_w_wr hr rfl kk (fun hP hS k => ?_)
  refine va_zast hx hb hK hP rt_wd_D hS a 2 (rt_a3 hc.1) rfl (rt_inIn hc.2) hd (fun H1 locs1 hP1 _ hS1 => k H1 locs1 ?_ hS1)
  rw [rt_wdI (rt_arAt hc.1).1 (fun _ => rt_en3 (rt_arAt hc.1).2)] at hP1
  exact hP1
theorem rt_w_last (C : rt_Cx p R s mid args meth c D cs b0 n0 ne m) {a : Nat} {x : Int32} {v : Int64} {r : List Value} (hd : decode (rt_code m) pc = .ok (.lastore, 1)) (hc : (rt_ar h.1 a 4 && rt_in x (rt_ln a)) = true)
    (hr : rt_go (pc + 1) ls r (h.1, h.2.1, rt_up h.2.2.1 a x.toNatClampNeg v, h.2.2.2) = some (.inr (.inl (pc2, ls2, st2, h2)))) (kk : rt_W p l e R s mid args below meth c Q D cs b0 sA n0 m pc2 ls2 st2 h2) :
    rt_W p l e R s mid args below meth c Q D cs b0 sA n0 m pc ls (.long v :: .int x :: .ref a :: r) h := by
  obtain ⟨hx, hb, hml, hown, hts, hret, hlk, hnm, hsz, hK, hN, hR⟩ := C
  rw [Bool.and_eq_true] at hc
  refine rt_w_wr hr rfl kk (fun hP hS k => ?_)
  refine va_last hx hb hK hP rt_wd_D hS a 3 (rt_a4 hc.1) rfl (rt_inIn hc.2) hd (fun H1 locs1 hP1 _ hS1 => k H1 locs1 ?_ hS1)
  rw [rt_wd_set (I := h.2.1) (L := h.2.2.1) (R := h.2.2.2) (I' := h.2.1) (L' := rt_up h.2.2.1 a x.toNatClampNeg v) (R' := h.2.2.2) (rt_arAt hc.1).1 (fun _ _ => rfl) (fun _ hj => rt_up_ne hj) (fun _ _ => rfl) (by rw [rt_en4 (rt_arAt hc.1).2, rt_up_at]; rfl)] at hP1
  exact hP1
theorem rt_w_aast (C : rt_Cx p R s mid args meth c D cs b0 n0 ne m) {a j : Nat} {x : Int32} {r : List Value} (hd : decode (rt_code m) pc = .ok (.aastore, 1)) (hc : (rt_ar h.1 a 5 && rt_in x (rt_ln a) && rt_ob h.1 j 1) = true)
    (hr : rt_go (pc + 1) ls r (h.1, h.2.1, h.2.2.1, rt_up h.2.2.2 a x.toNatClampNeg (some j)) = some (.inr (.inl (pc2, ls2, st2, h2)))) (kk : rt_W p l e R s mid args below meth c Q D cs b0 sA n0 m pc2 ls2 st2 h2) :
    rt_W p l e R s mid args below meth c Q D cs b0 sA n0 m pc ls (.ref j :: .int x :: .ref a :: r) h := by
  obtain ⟨hx, hb, hml, hown, hts, hret, hlk, hnm, hsz, hK, hN, hR⟩ := C
  rw [Bool.and_eq_true, Bool.and_eq_true] at hc
  obtain ⟨⟨hc1, hc2⟩, hc3⟩ := hc
  refine rt_w_wr hr rfl kk (fun hP hS k => ?_)
  refine va_astq (r := (rt_cn 1, rt_tb 1, rt_nf 1)) hx hb hK hP rt_wd_D hS a 4 j 1 (rt_a5 hc1) rfl (rt_obj hc3) rfl (rt_inIn hc2) hd (fun H1 locs1 hP1 _ hS1 => k H1 locs1 ?_ hS1)
  rw [rt_wd_set (I := h.2.1) (L := h.2.2.1) (R := h.2.2.2) (I' := h.2.1) (L' := h.2.2.1) (R' := rt_up h.2.2.2 a x.toNatClampNeg (some j)) (rt_arAt hc1).1 (fun _ _ => rfl) (fun _ _ => rfl) (fun _ hj => rt_up_ne hj) (by
    rw [rt_en5 (rt_arAt hc1).2, rt_up_at]
    show Sum.inl (cs 5, rt_ln a, Sum.inr (Sum.inr (Sum.inr (Sum.inr _)))) = Sum.inl (cs 5, rt_ln a, Sum.inr (Sum.inr (Sum.inr (Sum.inr _))))
    congr 7
    funext k
    unfold va_up
    by_cases hk : k = x.toNatClampNeg
    · simp [hk]
    · simp [hk])] at hP1
  exact hP1
theorem rt_sized {H : Heap} {locs : List Loc} {cells slots : Nat} {g : JFrame} (k : H.size ≤ s.heap.size + cells → W p l e R s mid args below meth c H locs cells slots Q g) : W p l e R s mid args below meth c H locs cells slots Q g := fun T hT X => k (by
  have h1 := X.same.2.2.1
  rw [← hT]
  exact h1) T hT X
theorem rt_newq {H1 : Heap} {n q cells : Nat} {en : va_E} (hsz : s.heap.size = b0 + n0) (hn : n0 ≤ h.1) (hP1 : va_P D vwCl (rt_wd b0 cs h ++ [(q, en)]) H1) (hD1 : va_D (fun q => b0 ≤ q) (rt_wd b0 cs h ++ [(q, en)])) (hz : H1.size ≤ s.heap.size + (h.1 - n0 + 1)) : q = b0 + h.1 := by
  have hlast : (rt_wd b0 cs h ++ [(q, en)])[h.1]? = some (q, en) := by
    rw [List.getElem?_append_right (by rw [rt_wd_len]; exact Nat.le_refl _), rt_wd_len, Nat.sub_self]
    rfl
  have h1 : q < H1.size := (hP1 _ _ hlast).lt
  have h3 : b0 ≤ q := hD1.2 _ _ hlast
  by_cases hq : q < b0 + h.1
  · exfalso
    have hi : q - b0 < h.1 := by omega
    have h4 : (rt_wd b0 cs h ++ [(q, en)])[q - b0]? = some (b0 + (q - b0), rt_en b0 cs (rt_kd (q - b0)) (h.2.1 (q - b0)) (h.2.2.1 (q - b0)) (h.2.2.2 (q - b0))) := by
      rw [List.getElem?_append_left (by rw [rt_wd_len]; exact hi), rt_wd_at hi]
    have h5 := hD1.1 _ _ _ _ h4 hlast (by show b0 + (q - b0) = q; omega)
    omega
  · omega
end RTA

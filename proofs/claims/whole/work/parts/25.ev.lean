/-! ROWS OF THE SMALL MACHINE'S OUTCOME, an instruction each -/
section RTE
variable {m pc pc2 len : Nat} {ls st ls2 st2 : List Value} {h h2 : rt_H} {n : Nat} {I : Nat → Nat → Int32} {L : Nat → Nat → Int64} {R : Nat → Nat → Option Nat}
theorem rt_act_of {i : Instr} {a : rt_A} (hd : decode (rt_code m) pc = .ok (i, len)) (hw : rt_wl i = 0 ∨ len = rt_wl i) (hi : rt_ins m pc i ls st h = a) : rt_act m pc ls st h = a := by
  unfold rt_act
  rw [hd]
  dsimp only
  rw [if_pos hw]
  exact hi
theorem ev_at {i : Instr} (hd : decode (rt_code m) pc = .ok (i, len)) (hw : rt_wl i = 0 ∨ len = rt_wl i) (hi : rt_ins m pc i ls st h = some (.inr (.inl (pc2, ls2, st2, h2)))) : Ev m pc ls st h = Ev m pc2 ls2 st2 h2 := Ev_go (rt_act_of hd hw hi)
theorem ev_br {i : Instr} {b : Bool} {off : Int} {tgt : Nat} (hd : decode (rt_code m) pc = .ok (i, 3)) (hw : rt_wl i = 0 ∨ 3 = rt_wl i) (hi : rt_ins m pc i ls st h = rt_br b pc off ls st2 h) (ht : rt_tg pc off = some tgt) : Ev m pc ls st h = if b = true then Ev m tgt ls st2 h else Ev m (pc + 3) ls st2 h := by
  cases b with
  | true =>
    rw [if_pos rfl]
    exact Ev_go (rt_act_of hd hw (by rw [hi]; unfold rt_br; rw [ht]; rfl))
  | false =>
    rw [if_neg (by decide)]
    exact Ev_go (rt_act_of hd hw (by rw [hi]; unfold rt_br; rw [ht]; rfl))
theorem ev_ite {P : Prop} [Decidable P] {α : Type} {a b : α} : (if decide P = true then a else b) = if P then a else b := by
  by_cases hp : P <;> simp [hp]
theorem ev_c_eq {x y : Int32} {off : Int} {tgt : Nat} (hd : decode (rt_code m) pc = .ok (.if_icmp .eq off, 3)) (ht : rt_tg pc off = some tgt) (h3 : pc + 3 = pc2) : Ev m pc ls (.int y :: .int x :: st) h = if x = y then Ev m tgt ls st h else Ev m pc2 ls st h := by rw [ev_br hd (Or.inr rfl) rfl ht, ← h3]; exact ev_ite
theorem ev_c_ne {x y : Int32} {off : Int} {tgt : Nat} (hd : decode (rt_code m) pc = .ok (.if_icmp .ne off, 3)) (ht : rt_tg pc off = some tgt) (h3 : pc + 3 = pc2) : Ev m pc ls (.int y :: .int x :: st) h = if x = y then Ev m pc2 ls st h else Ev m tgt ls st h := by
  rw [ev_br hd (Or.inr rfl) rfl ht, ← h3]
  refine ev_ite.trans ?_
  by_cases hq : x = y <;> simp [hq]
theorem ev_c_lt {x y : Int32} {off : Int} {tgt : Nat} (hd : decode (rt_code m) pc = .ok (.if_icmp .lt off, 3)) (ht : rt_tg pc off = some tgt) (h3 : pc + 3 = pc2) : Ev m pc ls (.int y :: .int x :: st) h = if x < y then Ev m tgt ls st h else Ev m pc2 ls st h := by rw [ev_br hd (Or.inr rfl) rfl ht, ← h3]; exact ev_ite
theorem ev_c_ge {x y : Int32} {off : Int} {tgt : Nat} (hd : decode (rt_code m) pc = .ok (.if_icmp .ge off, 3)) (ht : rt_tg pc off = some tgt) (h3 : pc + 3 = pc2) : Ev m pc ls (.int y :: .int x :: st) h = if y ≤ x then Ev m tgt ls st h else Ev m pc2 ls st h := by rw [ev_br hd (Or.inr rfl) rfl ht, ← h3]; exact ev_ite
theorem ev_c_gt {x y : Int32} {off : Int} {tgt : Nat} (hd : decode (rt_code m) pc = .ok (.if_icmp .gt off, 3)) (ht : rt_tg pc off = some tgt) (h3 : pc + 3 = pc2) : Ev m pc ls (.int y :: .int x :: st) h = if y < x then Ev m tgt ls st h else Ev m pc2 ls st h := by rw [ev_br hd (Or.inr rfl) rfl ht, ← h3]; exact ev_ite
theorem ev_c_le {x y : Int32} {off : Int} {tgt : Nat} (hd : decode (rt_code m) pc = .ok (.if_icmp .le off, 3)) (ht : rt_tg pc off = some tgt) (h3 : pc + 3 = pc2) : Ev m pc ls (.int y :: .int x :: st) h = if x ≤ y then Ev m tgt ls st h else Ev m pc2 ls st h := by rw [ev_br hd (Or.inr rfl) rfl ht, ← h3]; exact ev_ite
theorem ev_z_eq {x : Int32} {off : Int} {tgt : Nat} (hd : decode (rt_code m) pc = .ok (.ifCond .eq off, 3)) (ht : rt_tg pc off = some tgt) (h3 : pc + 3 = pc2) : Ev m pc ls (.int x :: st) h = if x = 0 then Ev m tgt ls st h else Ev m pc2 ls st h := by rw [ev_br hd (Or.inr rfl) rfl ht, ← h3]; exact ev_ite
theorem ev_z_ne {x : Int32} {off : Int} {tgt : Nat} (hd : decode (rt_code m) pc = .ok (.ifCond .ne off, 3)) (ht : rt_tg pc off = some tgt) (h3 : pc + 3 = pc2) : Ev m pc ls (.int x :: st) h = if x = 0 then Ev m pc2 ls st h else Ev m tgt ls st h := by
  rw [ev_br hd (Or.inr rfl) rfl ht, ← h3]
  refine ev_ite.trans ?_
  by_cases hq : x = 0 <;> simp [hq]
theorem ev_z_lt {x : Int32} {off : Int} {tgt : Nat} (hd : decode (rt_code m) pc = .ok (.ifCond .lt off, 3)) (ht : rt_tg pc off = some tgt) (h3 : pc + 3 = pc2) : Ev m pc ls (.int x :: st) h = if x < 0 then Ev m tgt ls st h else Ev m pc2 ls st h := by rw [ev_br hd (Or.inr rfl) rfl ht, ← h3]; exact ev_ite
theorem ev_z_ge {x : Int32} {off : Int} {tgt : Nat} (hd : decode (rt_code m) pc = .ok (.ifCond .ge off, 3)) (ht : rt_tg pc off = some tgt) (h3 : pc + 3 = pc2) : Ev m pc ls (.int x :: st) h = if 0 ≤ x then Ev m tgt ls st h else Ev m pc2 ls st h := by rw [ev_br hd (Or.inr rfl) rfl ht, ← h3]; exact ev_ite
theorem ev_z_gt {x : Int32} {off : Int} {tgt : Nat} (hd : decode (rt_code m) pc = .ok (.ifCond .gt off, 3)) (ht : rt_tg pc off = some tgt) (h3 : pc + 3 = pc2) : Ev m pc ls (.int x :: st) h = if 0 < x then Ev m tgt ls st h else Ev m pc2 ls st h := by rw [ev_br hd (Or.inr rfl) rfl ht, ← h3]; exact ev_ite
theorem ev_z_le {x : Int32} {off : Int} {tgt : Nat} (hd : decode (rt_code m) pc = .ok (.ifCond .le off, 3)) (ht : rt_tg pc off = some tgt) (h3 : pc + 3 = pc2) : Ev m pc ls (.int x :: st) h = if x ≤ 0 then Ev m tgt ls st h else Ev m pc2 ls st h := by rw [ev_br hd (Or.inr rfl) rfl ht, ← h3]; exact ev_ite
theorem ev_getI {idx ci k z ps o' idx' i f : Nat} (hd : decode (rt_code m) pc = .ok (.getfield idx, 3)) (hf : rt_fd (rt_own m) idx = some (o', idx', ci, k, z, ps)) (ht : rt_ft ci k = f) (hf2 : f = 0 ∨ f = 1) (h3 : pc + 3 = pc2) (ho : rt_ob n i ci = true) : Ev m pc ls (.ref i :: st) (n, I, L, R) = Ev m pc2 ls (.int (I i k) :: st) (n, I, L, R) := by
  subst h3
  refine ev_at hd (Or.inr rfl) ?_
  show rt_getf (rt_own m) idx pc ls (.ref i :: st) (n, I, L, R) = _
  rcases hf2 with rfl | rfl <;> (unfold rt_getf; dsimp only; rw [hf]; dsimp only; rw [if_pos ho, ht]; rfl)
theorem ev_getL {idx ci k z ps o' idx' i : Nat} (hd : decode (rt_code m) pc = .ok (.getfield idx, 3)) (hf : rt_fd (rt_own m) idx = some (o', idx', ci, k, z, ps)) (ht : rt_ft ci k = 2) (h3 : pc + 3 = pc2) (ho : rt_ob n i ci = true) : Ev m pc ls (.ref i :: st) (n, I, L, R) = Ev m pc2 ls (.long (L i k) :: st) (n, I, L, R) := by
  subst h3
  refine ev_at hd (Or.inr rfl) ?_
  show rt_getf (rt_own m) idx pc ls (.ref i :: st) (n, I, L, R) = _
  unfold rt_getf; dsimp only; rw [hf]; dsimp only; rw [if_pos ho, ht]; rfl
theorem ev_getR {idx ci k z ps o' idx' i j : Nat} (hd : decode (rt_code m) pc = .ok (.getfield idx, 3)) (hf : rt_fd (rt_own m) idx = some (o', idx', ci, k, z, ps)) (ht : rt_ft ci k = 3) (h3 : pc + 3 = pc2) (ho : rt_ob n i ci = true) (hj : R i k = some j) : Ev m pc ls (.ref i :: st) (n, I, L, R) = Ev m pc2 ls (.ref j :: st) (n, I, L, R) := by
  subst h3
  refine ev_at hd (Or.inr rfl) ?_
  show rt_getf (rt_own m) idx pc ls (.ref i :: st) (n, I, L, R) = _
  unfold rt_getf; dsimp only; rw [hf]; dsimp only; rw [if_pos ho, ht]
  show (match R i k with | some j => rt_go (pc + 3) ls (.ref j :: st) (n, I, L, R) | none => none) = _
  rw [hj]; rfl
theorem ev_putI {idx ci k ps o' idx' i : Nat} {x : Int32} (hd : decode (rt_code m) pc = .ok (.putfield idx, 3)) (hf : rt_fd (rt_own m) idx = some (o', idx', ci, k, 0, ps)) (ht : rt_ft ci k = 0) (hq : (!rt_fin ci k || ((rt_nm m).name == "<init>" && rt_own m == ci)) = true) (h3 : pc + 3 = pc2) (ho : rt_ob n i ci = true) : Ev m pc ls (.int x :: .ref i :: st) (n, I, L, R) = Ev m pc2 ls st (n, rt_up I i k x, L, R) := by
  subst h3
  refine ev_at hd (Or.inr rfl) ?_
  show rt_putf m idx pc ls (.int x :: .ref i :: st) (n, I, L, R) = _
  unfold rt_putf; dsimp only; rw [hf]; dsimp only; rw [if_pos (by rw [ho, hq]; rfl), ht]; rfl
theorem ev_putB {idx ci k ps o' idx' i : Nat} {x : Int32} (hd : decode (rt_code m) pc = .ok (.putfield idx, 3)) (hf : rt_fd (rt_own m) idx = some (o', idx', ci, k, 0, ps)) (ht : rt_ft ci k = 1) (hq : (!rt_fin ci k || ((rt_nm m).name == "<init>" && rt_own m == ci)) = true) (h3 : pc + 3 = pc2) (ho : rt_ob n i ci = true) (hb : rt_bo x = true) : Ev m pc ls (.int x :: .ref i :: st) (n, I, L, R) = Ev m pc2 ls st (n, rt_up I i k x, L, R) := by
  subst h3
  refine ev_at hd (Or.inr rfl) ?_
  show rt_putf m idx pc ls (.int x :: .ref i :: st) (n, I, L, R) = _
  unfold rt_putf; dsimp only; rw [hf]; dsimp only; rw [if_pos (by rw [ho, hq]; rfl), ht]
  show (if rt_bo x = true then rt_go (pc + 3) ls st (n, rt_up I i k x, L, R) else none) = _
  rw [if_pos hb]; rfl
theorem ev_putL {idx ci k ps o' idx' i : Nat} {x : Int64} (hd : decode (rt_code m) pc = .ok (.putfield idx, 3)) (hf : rt_fd (rt_own m) idx = some (o', idx', ci, k, 0, ps)) (ht : rt_ft ci k = 2) (hq : (!rt_fin ci k || ((rt_nm m).name == "<init>" && rt_own m == ci)) = true) (h3 : pc + 3 = pc2) (ho : rt_ob n i ci = true) : Ev m pc ls (.long x :: .ref i :: st) (n, I, L, R) = Ev m pc2 ls st (n, I, rt_up L i k x, R) := by
  subst h3
  refine ev_at hd (Or.inr rfl) ?_
  show rt_putf m idx pc ls (.long x :: .ref i :: st) (n, I, L, R) = _
  unfold rt_putf; dsimp only; rw [hf]; dsimp only; rw [if_pos (by rw [ho, hq]; rfl), ht]; rfl
theorem ev_putR {idx ci k ps o' idx' i j : Nat} (hd : decode (rt_code m) pc = .ok (.putfield idx, 3)) (hf : rt_fd (rt_own m) idx = some (o', idx', ci, k, 0, ps)) (ht : rt_ft ci k = 3) (hq : (!rt_fin ci k || ((rt_nm m).name == "<init>" && rt_own m == ci)) = true) (h3 : pc + 3 = pc2) (ho : rt_ob n i ci = true) : Ev m pc ls (.ref j :: .ref i :: st) (n, I, L, R) = Ev m pc2 ls st (n, I, L, rt_up R i k (some j)) := by
  subst h3
  refine ev_at hd (Or.inr rfl) ?_
  show rt_putf m idx pc ls (.ref j :: .ref i :: st) (n, I, L, R) = _
  unfold rt_putf; dsimp only; rw [hf]; dsimp only; rw [if_pos (by rw [ho, hq]; rfl), ht]; rfl
theorem ev_iald {a : Nat} {x : Int32} (hd : decode (rt_code m) pc = .ok (.iaload, 1)) (h3 : pc + 1 = pc2) (ha : rt_ar n a 1 = true) (hx : rt_in x (rt_ln a) = true) : Ev m pc ls (.int x :: .ref a :: st) (n, I, L, R) = Ev m pc2 ls (.int (I a x.toNatClampNeg) :: st) (n, I, L, R) := by
  subst h3
  exact ev_at hd (Or.inr rfl) (if_pos (by rw [Bool.and_eq_true]; exact ⟨ha, hx⟩))
theorem ev_bald {a : Nat} {x : Int32} (hd : decode (rt_code m) pc = .ok (.baload, 1)) (h3 : pc + 1 = pc2) (ha : (rt_ar n a 2 || rt_ar n a 3) = true) (hx : rt_in x (rt_ln a) = true) : Ev m pc ls (.int x :: .ref a :: st) (n, I, L, R) = Ev m pc2 ls (.int (I a x.toNatClampNeg) :: st) (n, I, L, R) := by
  subst h3
  exact ev_at hd (Or.inr rfl) (if_pos (by rw [Bool.and_eq_true]; exact ⟨ha, hx⟩))
theorem ev_lald {a : Nat} {x : Int32} (hd : decode (rt_code m) pc = .ok (.laload, 1)) (h3 : pc + 1 = pc2) (ha : rt_ar n a 4 = true) (hx : rt_in x (rt_ln a) = true) : Ev m pc ls (.int x :: .ref a :: st) (n, I, L, R) = Ev m pc2 ls (.long (L a x.toNatClampNeg) :: st) (n, I, L, R) := by
  subst h3
  exact ev_at hd (Or.inr rfl) (if_pos (by rw [Bool.and_eq_true]; exact ⟨ha, hx⟩))
theorem ev_aald {a j : Nat} {x : Int32} (hd : decode (rt_code m) pc = .ok (.aaload, 1)) (h3 : pc + 1 = pc2) (ha : rt_ar n a 5 = true) (hx : rt_in x (rt_ln a) = true) (hj : R a x.toNatClampNeg = some j) : Ev m pc ls (.int x :: .ref a :: st) (n, I, L, R) = Ev m pc2 ls (.ref j :: st) (n, I, L, R) := by
  subst h3
  refine ev_at hd (Or.inr rfl) ((if_pos (by rw [Bool.and_eq_true]; exact ⟨ha, hx⟩)).trans ?_)
  dsimp only
  rw [hj]
  rfl
theorem ev_iast {a : Nat} {x v : Int32} (hd : decode (rt_code m) pc = .ok (.iastore, 1)) (h3 : pc + 1 = pc2) (ha : rt_ar n a 1 = true) (hx : rt_in x (rt_ln a) = true) : Ev m pc ls (.int v :: .int x :: .ref a :: st) (n, I, L, R) = Ev m pc2 ls st (n, rt_up I a x.toNatClampNeg v, L, R) := by
  subst h3
  exact ev_at hd (Or.inr rfl) (if_pos (by rw [Bool.and_eq_true]; exact ⟨ha, hx⟩))
theorem ev_bast {a : Nat} {x v : Int32} (hd : decode (rt_code m) pc = .ok (.bastore, 1)) (h3 : pc + 1 = pc2) (ha : rt_ar n a 2 = true) (hx : rt_in x (rt_ln a) = true) : Ev m pc ls (.int v :: .int x :: .ref a :: st) (n, I, L, R) = Ev m pc2 ls st (n, rt_up I a x.toNatClampNeg v.toInt8.toInt32, L, R) := by
  subst h3
  exact ev_at hd (Or.inr rfl) (if_pos (by rw [Bool.and_eq_true]; exact ⟨ha, hx⟩))
theorem ev_zast {a : Nat} {x v : Int32} (hd : decode (rt_code m) pc = .ok (.bastore, 1)) (h3 : pc + 1 = pc2) (ha : rt_ar n a 3 = true) (hx : rt_in x (rt_ln a) = true) : Ev m pc ls (.int v :: .int x :: .ref a :: st) (n, I, L, R) = Ev m pc2 ls st (n, rt_up I a x.toNatClampNeg (vp_nar .boolean v), L, R) := by
  subst h3
  refine ev_at hd (Or.inr rfl) ((if_neg (fun q => ?_)).trans (if_pos (by rw [Bool.and_eq_true]; exact ⟨ha, hx⟩)))
  rw [Bool.and_eq_true] at q
  have h1 := (rt_arAt ha).2
  have h2 := (rt_arAt q.1).2
  omega
theorem ev_last {a : Nat} {x : Int32} {v : Int64} (hd : decode (rt_code m) pc = .ok (.lastore, 1)) (h3 : pc + 1 = pc2) (ha : rt_ar n a 4 = true) (hx : rt_in x (rt_ln a) = true) : Ev m pc ls (.long v :: .int x :: .ref a :: st) (n, I, L, R) = Ev m pc2 ls st (n, I, rt_up L a x.toNatClampNeg v, R) := by
  subst h3
  exact ev_at hd (Or.inr rfl) (if_pos (by rw [Bool.and_eq_true]; exact ⟨ha, hx⟩))
theorem ev_aast {a j : Nat} {x : Int32} (hd : decode (rt_code m) pc = .ok (.aastore, 1)) (h3 : pc + 1 = pc2) (ha : rt_ar n a 5 = true) (hx : rt_in x (rt_ln a) = true) (hj : rt_ob n j 1 = true) : Ev m pc ls (.ref j :: .int x :: .ref a :: st) (n, I, L, R) = Ev m pc2 ls st (n, I, L, rt_up R a x.toNatClampNeg (some j)) := by
  subst h3
  exact ev_at hd (Or.inr rfl) (if_pos (by rw [Bool.and_eq_true, Bool.and_eq_true]; exact ⟨⟨ha, hx⟩, hj⟩))
theorem ev_new {idx ci p1 p2 p3 o' idx' : Nat} (hd : decode (rt_code m) pc = .ok (.new idx, 3)) (hf : rt_nw (rt_own m) idx = some (o', idx', ci, p1, p2, p3)) (h3 : pc + 3 = pc2) (hk : (rt_kd n == (0, ci)) = true) : Ev m pc ls st (n, I, L, R) = Ev m pc2 ls (.ref n :: st) (n + 1, rt_row I n (fun _ => 0), rt_row L n (fun _ => 0), rt_row R n (fun _ => none)) := by
  subst h3
  refine ev_at hd (Or.inr rfl) ?_
  show (match rt_nw (rt_own m) idx with
    | some (_, _, ci, _) => if rt_kd n == (0, ci) then rt_new (pc + 3) ls st (n, I, L, R) else none
    | none => none) = _
  rw [hf]
  dsimp only
  rw [if_pos hk]
  rfl
theorem ev_newa {ty : ArrayType} {x : Int32} (hd : decode (rt_code m) pc = .ok (.newarray ty, 2)) (h3 : pc + 2 = pc2) (hk : ((rt_kd n == (rt_aty ty, x.toNatClampNeg)) && decide (0 ≤ x) && decide (rt_aty ty < 9) && decide (x.toNatClampNeg < 10000)) = true) : Ev m pc ls (.int x :: st) (n, I, L, R) = Ev m pc2 ls (.ref n :: st) (n + 1, rt_row I n (fun _ => 0), rt_row L n (fun _ => 0), rt_row R n (fun _ => none)) := by
  subst h3
  exact ev_at hd (Or.inr rfl) (if_pos hk)
theorem ev_newr {idx : Nat} {x : Int32} (hd : decode (rt_code m) pc = .ok (.anewarray idx, 3)) (h3 : pc + 3 = pc2) (hk : ((rt_kd n == (5, x.toNatClampNeg)) && decide (0 ≤ x) && decide (rt_own m = 8) && idx == 18 && decide (x.toNatClampNeg < 10000)) = true) : Ev m pc ls (.int x :: st) (n, I, L, R) = Ev m pc2 ls (.ref n :: st) (n + 1, rt_row I n (fun _ => 0), rt_row L n (fun _ => 0), rt_row R n (fun _ => none)) := by
  subst h3
  exact ev_at hd (Or.inr rfl) (if_pos hk)
theorem ev_ret {i : Instr} {r : rt_Res} (hd : decode (rt_code m) pc = .ok (i, len)) (hw : rt_wl i = 0 ∨ len = rt_wl i) (hi : rt_ins m pc i ls st h = some (.inl r)) : Ev m pc ls st h = some r := Ev_ret (rt_act_of hd hw hi)
theorem ev_retI {x : Int32} (hd : decode (rt_code m) pc = .ok (.ireturn, 1)) (ht : rt_ret m = some .int) : Ev m pc ls [.int x] h = some (some (.int x), h) := ev_ret hd (Or.inr rfl) (if_pos (Or.inl ht))
theorem ev_retZ {x : Int32} (hd : decode (rt_code m) pc = .ok (.ireturn, 1)) (ht : rt_ret m = some .boolean) (hb : rt_bo x = true) : Ev m pc ls [.int x] h = some (some (.int x), h) := ev_ret hd (Or.inr rfl) (if_pos (Or.inr ⟨ht, hb⟩))
theorem ev_retV (hd : decode (rt_code m) pc = .ok (.return_, 1)) (ht : rt_ret m = none) : Ev m pc ls [] h = some (none, h) := ev_ret hd (Or.inr rfl) (if_pos ht)
theorem ev_retA {x : Nat} (hd : decode (rt_code m) pc = .ok (.areturn, 1)) (ht : rt_ret m = some (.object "RoomTalk$Phrase")) : Ev m pc ls [.ref x] h = some (some (.ref x), h) := ev_ret hd (Or.inr rfl) (if_pos ht)
/-- a call of the table: what comes of it, then the rest -/
theorem ev_call {i : Instr} {k m2 : Nat} {as rr : List Value} (hd : decode (rt_code m) pc = .ok (i, 3)) (hw : rt_wl i = 0 ∨ 3 = rt_wl i) (hi : rt_ins m pc i ls st h = some (.inr (.inr (m2, as, rr)))) (h3 : pc + 3 = pc2) (hl : rt_ini m2 as = ls2) : Ev m pc ls st h = (Ev m2 0 ls2 [] h).bind (fun q => Ev m pc2 ls (q.1.toList ++ rr) q.2) := by
  subst h3; subst hl
  exact Ev_call (rt_act_of hd hw hi)
theorem ev_cl0 {m2 : Nat} {as rr : List Value} (hs : st = as.reverse ++ rr) (hl : as.length = rt_na m2) (ha : as.all rt_o1 = true) (hm : rt_na m2 ≤ rt_ml m2) (hc : rt_cs rr ≤ 8) (hf : rt_rf m2 + 1 ≤ rt_rf m) (hr : 8 + (rt_ml m2 + 11) + rt_rl m2 ≤ rt_rl m) : rt_cl0 m m2 st = some (.inr (.inr (m2, as, rr))) := by
  have h1 : st.take (rt_na m2) = as.reverse := by rw [hs, ← hl, ← List.length_reverse, List.take_left]
  have h2 : st.drop (rt_na m2) = rr := by rw [hs, ← hl, ← List.length_reverse, List.drop_left]
  unfold rt_cl0
  rw [h1, h2, if_pos ⟨by rw [hs, List.length_append, List.length_reverse, hl]; omega, by rw [List.all_reverse]; exact ha, hm, hc, hf, hr⟩, List.reverse_reverse]
theorem ev_cV {idx m2 i p1 p2 p3 p4 o' idx' : Nat} {as rr : List Value} (hd : decode (rt_code m) pc = .ok (.invokevirtual idx, 3)) (hc : rt_ca (rt_own m) idx = some (o', idx', 0, m2, p1, p2, p3, p4)) (hs : st = as.reverse ++ .ref i :: rr) (hl : (as.length + 1) = rt_na m2) (ha : as.all rt_o1 = true) (hm : rt_na m2 ≤ rt_ml m2) (hf : rt_rf m2 + 1 ≤ rt_rf m) (hr : 8 + (rt_ml m2 + 11) + rt_rl m2 ≤ rt_rl m) (h3 : pc + 3 = pc2) (hi : rt_ini m2 (.ref i :: as) = ls2) (ho : rt_ob n i (rt_own m2) = true) (hcs : rt_cs rr ≤ 8) :
    Ev m pc ls st (n, I, L, R) = (Ev m2 0 ls2 [] (n, I, L, R)).bind (fun q => Ev m pc2 ls (q.1.toList ++ rr) q.2) := by
  have hs' : st = (Value.ref i :: as).reverse ++ rr := by rw [hs]; simp
  have h1 : (st.take (rt_na m2)).reverse = .ref i :: as := by
    rw [hs', ← hl, ← List.length_cons (a := Value.ref i), ← List.length_reverse, List.take_left, List.reverse_reverse]
  refine ev_call (k := 0) hd (Or.inr rfl) ?_ h3 hi
  show rt_call 0 m pc idx ls st _ = _
  unfold rt_call
  rw [hc]
  dsimp only
  unfold rt_cV
  rw [h1]
  dsimp only
  rw [if_pos ho]
  exact ev_cl0 hs' hl (by rw [List.all_cons, ha]; rfl) hm hcs hf hr
theorem ev_cS {idx m2 p1 p2 p3 p4 o' idx' : Nat} {as rr : List Value} (hd : decode (rt_code m) pc = .ok (.invokestatic idx, 3)) (hc : rt_ca (rt_own m) idx = some (o', idx', 1, m2, p1, p2, p3, p4)) (hs : st = as.reverse ++ rr) (hl : as.length = rt_na m2) (ha : as.all rt_o1 = true) (hm : rt_na m2 ≤ rt_ml m2) (hf : rt_rf m2 + 1 ≤ rt_rf m) (hr : 8 + (rt_ml m2 + 11) + rt_rl m2 ≤ rt_rl m) (h3 : pc + 3 = pc2) (hi : rt_ini m2 as = ls2) (hcs : rt_cs rr ≤ 8) :
    Ev m pc ls st h = (Ev m2 0 ls2 [] h).bind (fun q => Ev m pc2 ls (q.1.toList ++ rr) q.2) := by
  refine ev_call (k := 0) hd (Or.inr rfl) ?_ h3 hi
  show rt_call 1 m pc idx ls st _ = _
  unfold rt_call
  rw [hc]
  dsimp only
  exact ev_cl0 hs hl ha hm hcs hf hr
theorem ev_cI {idx m2 i how p1 p2 p3 p4 o' idx' : Nat} {as rr : List Value} (hd : decode (rt_code m) pc = .ok (.invokespecial idx, 3)) (hc : rt_ca (rt_own m) idx = some (o', idx', how, m2, p1, p2, p3, p4)) (hh : how = 2 ∨ how = 3) (hs : st = as.reverse ++ .ref i :: rr) (hl : (as.length + 1) = rt_na m2) (ha : as.all rt_o1 = true) (hm : rt_na m2 ≤ rt_ml m2) (hf : rt_rf m2 + 1 ≤ rt_rf m) (hr : 8 + (rt_ml m2 + 11) + rt_rl m2 ≤ rt_rl m) (h3 : pc + 3 = pc2) (hi : rt_ini m2 (.ref i :: as) = ls2) (hcs : rt_cs rr ≤ 8) :
    Ev m pc ls st h = (Ev m2 0 ls2 [] h).bind (fun q => Ev m pc2 ls (q.1.toList ++ rr) q.2) := by
  have hs' : st = (Value.ref i :: as).reverse ++ rr := by rw [hs]; simp
  have h1 : (st.take (rt_na m2)).reverse = .ref i :: as := by
    rw [hs', ← hl, ← List.length_cons (a := Value.ref i), ← List.length_reverse, List.take_left, List.reverse_reverse]
  refine ev_call (k := 0) hd (Or.inr rfl) ?_ h3 hi
  show rt_call 2 m pc idx ls st _ = _
  rcases hh with rfl | rfl <;> (unfold rt_call; rw [hc]; dsimp only; rw [h1]; dsimp only; exact ev_cl0 hs' hl (by rw [List.all_cons, ha]; rfl) hm hcs hf hr)
theorem ev_cO {idx i p1 p2 p3 p4 o' idx' x : Nat} (hd : decode (rt_code m) pc = .ok (.invokespecial idx, 3)) (hc : rt_ca (rt_own m) idx = some (o', idx', 4, x, p1, p2, p3, p4)) (hf : 1 ≤ rt_rf m) (hr : 20 ≤ rt_rl m) (h3 : pc + 3 = pc2) (hcs : rt_cs st ≤ 8) : Ev m pc ls (.ref i :: st) h = Ev m pc2 ls st h := by
  subst h3
  refine ev_at hd (Or.inr rfl) ?_
  show rt_call 2 m pc idx ls _ _ = _
  unfold rt_call
  rw [hc]
  dsimp only
  rw [if_pos ⟨hf, by omega⟩]
  rfl
theorem ev_cC {idx p1 p2 p3 p4 o' idx' x a b : Nat} {y dp sp : Int32} (hd : decode (rt_code m) pc = .ok (.invokestatic idx, 3)) (hc : rt_ca (rt_own m) idx = some (o', idx', 5, x, p1, p2, p3, p4)) (h3 : pc + 3 = pc2)
    (hq : 1 ≤ rt_rf m ∧ rt_cs st + 40 ≤ rt_rl m ∧ rt_ar n a 1 ∧ rt_ar n b 1 ∧ a ≠ b ∧ 0 ≤ y ∧ 0 ≤ sp ∧ 0 ≤ dp ∧ sp.toNatClampNeg + y.toNatClampNeg ≤ rt_ln a ∧ dp.toNatClampNeg + y.toNatClampNeg ≤ rt_ln b) : Ev m pc ls (.int y :: .int dp :: .ref b :: .int sp :: .ref a :: st) (n, I, L, R) = Ev m pc2 ls st (n, rt_row I b (va_cpy (I a) (I b) sp.toNatClampNeg dp.toNatClampNeg y.toNatClampNeg), L, R) := by
  subst h3
  refine ev_at hd (Or.inr rfl) ?_
  show rt_call 1 m pc idx ls _ _ = _
  unfold rt_call
  rw [hc]
  dsimp only
  rw [if_pos hq]
  rfl
end RTE

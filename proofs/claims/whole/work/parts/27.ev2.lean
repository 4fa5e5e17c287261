section RTF
variable {m pc pc2 len : Nat} {ls st ls2 st2 : List Value} {h h2 : rt_H} {n : Nat} {I : Nat → Nat → Int32} {L : Nat → Nat → Int64} {R : Nat → Nat → Option Nat}
theorem ev_sv {i : Instr} {k : Nat} {u v : Value} (hd : decode (rt_code m) pc = .ok (i, len)) (hw : rt_wl i = 0 ∨ len = rt_wl i) (hi : rt_ins m pc i ls (v :: st) h = rt_sv ls k pc2 v st h) (hk : ls[k]? = some u) (hu : rt_ns u = true) (hs : ls.set k v = ls2) : Ev m pc ls (v :: st) h = Ev m pc2 ls2 st h := by
  refine ev_at hd hw (hi.trans ?_)
  unfold rt_sv
  rw [hk]
  dsimp only
  rw [if_pos hu, hs]
  rfl
theorem rt_neI {x k : Int32} {z : Int} (h : ¬ x = k) (hk : k.toInt = z) : x.toInt ≠ z := fun q => h (Int32.toInt_inj.mp (q.trans hk.symm))
theorem ev_swT {x : Int32} {df lo hi : Int} {offs : Array Int} {tgt : Nat} (hd : decode (rt_code m) pc = .ok (.tableswitch df lo hi offs, len)) (hx : x.toInt < lo ∨ hi < x.toInt) (ht : rt_tg pc df = some tgt) : Ev m pc ls (.int x :: st) h = Ev m tgt ls st h := by
  refine ev_at hd (Or.inl rfl) ?_
  show rt_sw pc (if x.toInt < lo ∨ hi < x.toInt then some df else offs[(x.toInt - lo).toNat]?) ls st h = _
  rw [if_pos hx]
  unfold rt_sw
  dsimp only
  rw [ht]
  rfl
theorem ev_swL {x : Int32} {df o : Int} {ps : Array (Int × Int)} {tgt : Nat} (hd : decode (rt_code m) pc = .ok (.lookupswitch df ps, len)) (hp : (ps.toList.zip (ps.toList.drop 1)).all (fun (a, next) => a.1 < next.1) = true) (hx : Op.lookupswitch.offset ps.toList df x.toInt = o) (ht : rt_tg pc o = some tgt) : Ev m pc ls (.int x :: st) h = Ev m tgt ls st h := by
  refine ev_at hd (Or.inl rfl) ((if_pos hp).trans ?_)
  rw [hx]
  unfold rt_sw
  dsimp only
  rw [ht]
  rfl
theorem ev_cN {idx p1 p2 p3 p4 o' idx' x : Nat} (hd : decode (rt_code m) pc = .ok (.invokevirtual idx, 3)) (hc : rt_ca (rt_own m) idx = some (o', idx', 6, x, p1, p2, p3, p4)) (hf : 3 ≤ rt_rf m) (hr : 60 ≤ rt_rl m) (h3 : pc + 3 = pc2) (hcs : rt_cs st ≤ 8) : Ev m pc ls (.retAddr 0 :: st) h = Ev m pc2 ls (.int (nI rt_strL) :: st) h := by
  subst h3
  refine ev_at hd (Or.inr rfl) ?_
  show rt_call 0 m pc idx ls (.retAddr 0 :: st) h = _
  unfold rt_call
  rw [hc]
  exact if_pos ⟨hf, hr, hcs⟩
theorem ev_cA {idx p1 p2 p3 p4 o' idx' y : Nat} {x : Int32} (hd : decode (rt_code m) pc = .ok (.invokevirtual idx, 3)) (hc : rt_ca (rt_own m) idx = some (o', idx', 7, y, p1, p2, p3, p4)) (hf : 5 ≤ rt_rf m) (hr : 100 ≤ rt_rl m) (h3 : pc + 3 = pc2) (hcs : rt_cs st ≤ 8) (hx : rt_in x rt_strL = true) : Ev m pc ls (.int x :: .retAddr 0 :: st) h = Ev m pc2 ls (.int (nI (rt_strB.getD x.toNatClampNeg 0)) :: st) h := by
  subst h3
  refine ev_at hd (Or.inr rfl) ?_
  show rt_call 0 m pc idx ls (.int x :: .retAddr 0 :: st) h = _
  unfold rt_call
  rw [hc]
  exact if_pos ⟨hf, hr, hcs, hx⟩
end RTF
theorem rt_isS {o : Option Nat} (h : o.isSome = true) : o = some (o.getD 0) := by
  cases o with
  | none => cases h
  | some j => rfl

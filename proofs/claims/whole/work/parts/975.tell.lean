section P49
variable {e : Nat} {I I1 I2 J : Nat → Nat → Int32} {L : Nat → Nat → Int64} {R : Nat → Nat → Option Nat} {a b T E j n S nw NR fm r M p : Nat} {x y w u to_ : Int32} {q : PhT} {ln one : Option Nat} {dg : Nat → Nat → Nat} {dn : Bool} {wd : List Nat}
theorem kdp (k r : Nat) (hr : r < 5) : rt_kd (71 + 5 * k + r) = if r = 0 then (0, 1) else if r = 4 then (1, 6) else (1, 7) := by
  have h1 : ¬ 71 + 5 * k + r < 71 := by omega
  have h2 : (71 + 5 * k + r - 71) % 5 = r := by omega
  unfold rt_kd
  rw [if_neg h1, h2]
  have : r = 0 ∨ r = 1 ∨ r = 2 ∨ r = 3 ∨ r = 4 := by omega
  rcases this with rfl | rfl | rfl | rfl | rfl <;> rfl
theorem kd_ob {c n i : Nat} (h : i < n) (hk : rt_kd i = (0, c)) : rt_ob n i c = true := by unfold rt_ob; rw [decide_eq_true h, hk]; simp
theorem kd_ar {c n i l : Nat} (h : i < n) (hk : rt_kd i = (c, l)) : rt_ar n i c = true := by unfold rt_ar; rw [decide_eq_true h, hk]; simp
theorem kd_ln {c i l : Nat} (hk : rt_kd i = (c, l)) : rt_ln i = l := by unfold rt_ln; rw [hk]
/-- a new phrase's rows -/
theorem x_pinit (hp : p = 71 + 5 * nw) : ∃ (I1 : Nat → Nat → Int32) (L1 : Nat → Nat → Int64) (R1 : Nat → Nat → Option Nat), Ev mX1_init 0 [.ref p] [] (p + 1, I, L, R) = some (none, (p + 1 + 1 + 1 + 1 + 1, I1, L1, R1)) ∧ (∀ c, c < p + 1 → I1 c = I c ∧ L1 c = L c) ∧ (∀ c, c < p → R1 c = R c) ∧ R1 p 0 = some (p + 1) ∧ R1 p 1 = some (p + 1 + 1) ∧ R1 p 2 = some (p + 1 + 1 + 1) ∧ R1 p 3 = some (p + 1 + 1 + 1 + 1) := by
  have k0 : rt_kd p = (0, 1) := by have := kdp nw 0 (by omega); rw [Nat.add_zero, ← hp] at this; exact this
  have k1 : rt_kd (p + 1) = (1, 7) := by have := kdp nw 1 (by omega); rw [← hp] at this; exact this
  have k2 : rt_kd (p + 1 + 1) = (1, 7) := by have := kdp nw 2 (by omega); rw [← hp] at this; exact this
  have k3 : rt_kd (p + 1 + 1 + 1) = (1, 7) := by have := kdp nw 3 (by omega); rw [← hp] at this; exact this
  have k4 : rt_kd (p + 1 + 1 + 1 + 1) = (1, 6) := by have := kdp nw 4 (by omega); rw [← hp] at this; exact this
  have n1 : ((rt_kd (p + 1) == (rt_aty .int, (7 : Int32).toNatClampNeg)) && decide (0 ≤ (7 : Int32)) && decide (rt_aty .int < 9) && decide ((7 : Int32).toNatClampNeg < 10000)) = true := by rw [k1]; decide
  have n2 : ((rt_kd (p + 1 + 1) == (rt_aty .int, (7 : Int32).toNatClampNeg)) && decide (0 ≤ (7 : Int32)) && decide (rt_aty .int < 9) && decide ((7 : Int32).toNatClampNeg < 10000)) = true := by rw [k2]; decide
  have n3 : ((rt_kd (p + 1 + 1 + 1) == (rt_aty .int, (7 : Int32).toNatClampNeg)) && decide (0 ≤ (7 : Int32)) && decide (rt_aty .int < 9) && decide ((7 : Int32).toNatClampNeg < 10000)) = true := by rw [k3]; decide
  have n4 : ((rt_kd (p + 1 + 1 + 1 + 1) == (rt_aty .int, (6 : Int32).toNatClampNeg)) && decide (0 ≤ (6 : Int32)) && decide (rt_aty .int < 9) && decide ((6 : Int32).toNatClampNeg < 10000)) = true := by rw [k4]; decide
  have o1 : rt_ob (p + 1 + 1) p 1 = true := kd_ob (by omega) k0
  have o2 : rt_ob (p + 1 + 1 + 1) p 1 = true := kd_ob (by omega) k0
  have o3 : rt_ob (p + 1 + 1 + 1 + 1) p 1 = true := kd_ob (by omega) k0
  have o4 : rt_ob (p + 1 + 1 + 1 + 1 + 1) p 1 = true := kd_ob (by omega) k0
  generalize hh : Ev mX1_init 0 [.ref p] [] (p + 1, I, L, R) = res
  simp (disch := first | assumption | fail) only [e_X1_init_0, e_X1_init_1, e_X1_init_4, e_X1_init_5, e_X1_init_7, e_X1_init_9, e_X1_init_12, e_X1_init_13, e_X1_init_15, e_X1_init_17, e_X1_init_20, e_X1_init_21, e_X1_init_23, e_X1_init_25, e_X1_init_28, e_X1_init_29, e_X1_init_31, e_X1_init_33, e_X1_init_36] at hh
  subst hh
  refine ⟨_, _, _, rfl, fun c hc => ⟨?_, ?_⟩, fun c hc => ?_, ?_, ?_, ?_, ?_⟩
  · funext k
    rw [rt_row_n (by omega), rt_row_n (by omega), rt_row_n (by omega), rt_row_n (by omega)]
  · funext k
    rw [rt_row_n (by omega), rt_row_n (by omega), rt_row_n (by omega), rt_row_n (by omega)]
  · funext k
    rw [rt_up_n1 (by omega), rt_row_n (by omega), rt_up_n1 (by omega), rt_row_n (by omega), rt_up_n1 (by omega), rt_row_n (by omega), rt_up_n1 (by omega), rt_row_n (by omega)]
  · rw [rt_up_n2 (by omega), rt_row_n (by omega), rt_up_n2 (by omega), rt_row_n (by omega), rt_up_n2 (by omega), rt_row_n (by omega), rt_up_eq]
  · rw [rt_up_n2 (by omega), rt_row_n (by omega), rt_up_n2 (by omega), rt_row_n (by omega), rt_up_eq]
  · rw [rt_up_n2 (by omega), rt_row_n (by omega), rt_up_eq]
  · rw [rt_up_eq]
theorem rt_row_f {α : Type} {f : Nat → Nat → α} {i c : Nat} {g : Nat → α} (h : c ≠ i) : rt_row f i g c = f c := by unfold rt_row; rw [if_neg h]
theorem rt_row_s {α : Type} {f : Nat → Nat → α} {i : Nat} {g : Nat → α} : rt_row f i g i = g := by unfold rt_row; rw [if_pos rfl]
theorem x_copy (hR : RG R a b) (hp : p = 71 + 5 * nw) : ∃ (I2 : Nat → Nat → Int32) (L2 : Nat → Nat → Int64) (R2 : Nat → Nat → Option Nat), Ev mX1_copy 0 [.ref 18, .float 0] [] (p, I, L, R) = some (some (.ref p), (p + 5, I2, L2, R2)) ∧ (∀ c, c < p → I2 c = I c ∧ L2 c = L c ∧ R2 c = R c) ∧ (I2 p 4 = I 18 4 ∧ I2 p 5 = I 18 5) ∧ (∀ k, k < 7 → I2 (p + 1) k = I 19 k ∧ I2 (p + 2) k = I 20 k ∧ I2 (p + 3) k = I 21 k) ∧ (∀ k, k < 6 → I2 (p + 4) k = I 22 k) ∧ R2 p 0 = some (p + 1) ∧ R2 p 1 = some (p + 2) ∧ R2 p 2 = some (p + 3) ∧ R2 p 3 = some (p + 4) := by
  have k0 : rt_kd p = (0, 1) := by have := kdp nw 0 (by omega); rw [Nat.add_zero, ← hp] at this; exact this
  have k1 : rt_kd (p + 1) = (1, 7) := by have := kdp nw 1 (by omega); rw [← hp] at this; exact this
  have k2 : rt_kd (p + 1 + 1) = (1, 7) := by have := kdp nw 2 (by omega); rw [← hp] at this; exact this
  have k3 : rt_kd (p + 1 + 1 + 1) = (1, 7) := by have := kdp nw 3 (by omega); rw [← hp] at this; exact this
  have k4 : rt_kd (p + 1 + 1 + 1 + 1) = (1, 6) := by have := kdp nw 4 (by omega); rw [← hp] at this; exact this
  obtain ⟨I1, L1, R1, hE, f1, f2, r0, r1, r2, r3⟩ := x_pinit (I := rt_row I p (fun _ => 0)) (L := rt_row L p (fun _ => 0)) (R := rt_row R p (fun _ => none)) hp
  have fI : ∀ c, c < p → I1 c = I c := fun c hc => by rw [(f1 c (by omega)).1, rt_row_f (by omega)]
  have fL : ∀ c, c < p → L1 c = L c := fun c hc => by rw [(f1 c (by omega)).2, rt_row_f (by omega)]
  have fR : ∀ c, c < p → R1 c = R c := fun c hc => by rw [f2 c hc, rt_row_f (by omega)]
  have s0 : R1 18 0 = some 19 := by rw [fR 18 (by omega)]; exact rg_18_0 hR
  have s1 : R1 18 1 = some 20 := by rw [fR 18 (by omega)]; exact rg_18_1 hR
  have s2 : R1 18 2 = some 21 := by rw [fR 18 (by omega)]; exact rg_18_2 hR
  have s3 : R1 18 3 = some 22 := by rw [fR 18 (by omega)]; exact rg_18_3 hR
  have hk : (rt_kd p == (0, 1)) = true := by rw [k0]; rfl
  have ob1 : rt_ob (p + 1 + 1 + 1 + 1 + 1) p 1 = true := kd_ob (by omega) k0
  have ob2 : rt_ob (p + 1 + 1 + 1 + 1 + 1) 18 1 = true := kd_ob (by omega) rfl
  have q0 : rt_cs [] + 40 ≤ rt_rl mX1_copy := by decide +kernel
  have q9 : 1 ≤ rt_rf mX1_copy := by decide +kernel
  have i0 : (0 : Int32) ≤ 0 := by decide
  have i7 : (0 : Int32) ≤ 7 := by decide
  have i6 : (0 : Int32) ≤ 6 := by decide
  have t7 : (7 : Int32).toNatClampNeg = 7 := by decide
  have t6 : (6 : Int32).toNatClampNeg = 6 := by decide
  have g1 : 1 ≤ rt_rf mX1_copy ∧ rt_cs [] + 40 ≤ rt_rl mX1_copy ∧ rt_ar (p + 1 + 1 + 1 + 1 + 1) 19 1 ∧ rt_ar (p + 1 + 1 + 1 + 1 + 1) (p + 1) 1 ∧ 19 ≠ p + 1 ∧ (0 : Int32) ≤ 7 ∧ (0 : Int32) ≤ 0 ∧ (0 : Int32) ≤ 0 ∧ (0 : Int32).toNatClampNeg + (7 : Int32).toNatClampNeg ≤ rt_ln 19 ∧ (0 : Int32).toNatClampNeg + (7 : Int32).toNatClampNeg ≤ rt_ln (p + 1) := ⟨q9, q0, kd_ar (by omega) (show rt_kd 19 = (1, 7) from rfl), kd_ar (by omega) k1, by omega, i7, i0, i0, by decide, by rw [kd_ln k1]; decide⟩
  have g2 : 1 ≤ rt_rf mX1_copy ∧ rt_cs [] + 40 ≤ rt_rl mX1_copy ∧ rt_ar (p + 1 + 1 + 1 + 1 + 1) 20 1 ∧ rt_ar (p + 1 + 1 + 1 + 1 + 1) (p + 1 + 1) 1 ∧ 20 ≠ p + 1 + 1 ∧ (0 : Int32) ≤ 7 ∧ (0 : Int32) ≤ 0 ∧ (0 : Int32) ≤ 0 ∧ (0 : Int32).toNatClampNeg + (7 : Int32).toNatClampNeg ≤ rt_ln 20 ∧ (0 : Int32).toNatClampNeg + (7 : Int32).toNatClampNeg ≤ rt_ln (p + 1 + 1) := ⟨q9, q0, kd_ar (by omega) (show rt_kd 20 = (1, 7) from rfl), kd_ar (by omega) k2, by omega, i7, i0, i0, by decide, by rw [kd_ln k2]; decide⟩
  have g3 : 1 ≤ rt_rf mX1_copy ∧ rt_cs [] + 40 ≤ rt_rl mX1_copy ∧ rt_ar (p + 1 + 1 + 1 + 1 + 1) 21 1 ∧ rt_ar (p + 1 + 1 + 1 + 1 + 1) (p + 1 + 1 + 1) 1 ∧ 21 ≠ p + 1 + 1 + 1 ∧ (0 : Int32) ≤ 7 ∧ (0 : Int32) ≤ 0 ∧ (0 : Int32) ≤ 0 ∧ (0 : Int32).toNatClampNeg + (7 : Int32).toNatClampNeg ≤ rt_ln 21 ∧ (0 : Int32).toNatClampNeg + (7 : Int32).toNatClampNeg ≤ rt_ln (p + 1 + 1 + 1) := ⟨q9, q0, kd_ar (by omega) (show rt_kd 21 = (1, 7) from rfl), kd_ar (by omega) k3, by omega, i7, i0, i0, by decide, by rw [kd_ln k3]; decide⟩
  have g4 : 1 ≤ rt_rf mX1_copy ∧ rt_cs [] + 40 ≤ rt_rl mX1_copy ∧ rt_ar (p + 1 + 1 + 1 + 1 + 1) 22 1 ∧ rt_ar (p + 1 + 1 + 1 + 1 + 1) (p + 1 + 1 + 1 + 1) 1 ∧ 22 ≠ p + 1 + 1 + 1 + 1 ∧ (0 : Int32) ≤ 6 ∧ (0 : Int32) ≤ 0 ∧ (0 : Int32) ≤ 0 ∧ (0 : Int32).toNatClampNeg + (6 : Int32).toNatClampNeg ≤ rt_ln 22 ∧ (0 : Int32).toNatClampNeg + (6 : Int32).toNatClampNeg ≤ rt_ln (p + 1 + 1 + 1 + 1) := ⟨q9, q0, kd_ar (by omega) (show rt_kd 22 = (1, 6) from rfl), kd_ar (by omega) k4, by omega, i6, i0, i0, by decide, by rw [kd_ln k4]; decide⟩
  generalize hh : Ev mX1_copy 0 [.ref 18, .float 0] [] (p, I, L, R) = res
  simp (disch := first | assumption | exact ns_float | (simp only [s0, s1, s2, s3, r0, r1, r2, r3, Option.isSome_some]; done) | fail) only [e_X1_copy_0, e_X1_copy_3, e_X1_copy_4, e_X1_copy_7, e_X1_copy_8, e_X1_copy_9, e_X1_copy_12, e_X1_copy_13, e_X1_copy_14, e_X1_copy_17, e_X1_copy_18, e_X1_copy_20, e_X1_copy_23, e_X1_copy_24, e_X1_copy_27, e_X1_copy_28, e_X1_copy_29, e_X1_copy_32, e_X1_copy_33, e_X1_copy_35, e_X1_copy_38, e_X1_copy_39, e_X1_copy_42, e_X1_copy_43, e_X1_copy_44, e_X1_copy_47, e_X1_copy_48, e_X1_copy_50, e_X1_copy_53, e_X1_copy_54, e_X1_copy_57, e_X1_copy_58, e_X1_copy_59, e_X1_copy_62, e_X1_copy_63, e_X1_copy_65, e_X1_copy_68, e_X1_copy_69, e_X1_copy_70, e_X1_copy_73, e_X1_copy_76, e_X1_copy_77, e_X1_copy_78, e_X1_copy_81, e_X1_copy_84, e_X1_copy_85, hE, s0, s1, s2, s3, r0, r1, r2, r3, Option.getD_some, Option.bind_some, Option.toList_some, Option.toList_none, List.cons_append, List.nil_append] at hh
  subst hh
  refine ⟨_, L1, R1, rfl, fun c hc => ⟨?_, fL c hc, fR c hc⟩, ⟨?_, ?_⟩, fun k hk => ⟨?_, ?_, ?_⟩, fun k hk => ?_, r0, r1, r2, r3⟩
  · rw [rt_up_f (by omega), rt_up_f (by omega), rt_row_f (by omega), rt_row_f (by omega), rt_row_f (by omega), rt_row_f (by omega)]
    exact fI c hc
  · rw [rt_up_n2 (by omega), rt_up_eq, rt_row_n (by omega), rt_row_n (by omega), rt_row_n (by omega), rt_row_n (by omega), fI 18 (by omega)]
  · rw [rt_up_eq, rt_up_n1 (by omega), rt_row_n (by omega), rt_row_n (by omega), rt_row_n (by omega), rt_row_n (by omega), fI 18 (by omega)]
  · rw [rt_up_n1 (by omega), rt_up_n1 (by omega), rt_row_n (by omega), rt_row_n (by omega), rt_row_n (by omega), rt_row_eq, cl_0, t7, pk_cpy_in (by omega) (by omega), Nat.sub_zero, Nat.zero_add, fI 19 (by omega)]
  · rw [rt_up_n1 (by omega), rt_up_n1 (by omega), rt_row_n (by omega), rt_row_n (by omega)]
    show rt_row _ (p + 1 + 1) _ (p + 1 + 1) k = _
    rw [rt_row_eq, cl_0, t7, pk_cpy_in (by omega) (by omega), Nat.sub_zero, Nat.zero_add, rt_row_n (by omega), fI 20 (by omega)]
  · rw [rt_up_n1 (by omega), rt_up_n1 (by omega), rt_row_n (by omega)]
    show rt_row _ (p + 1 + 1 + 1) _ (p + 1 + 1 + 1) k = _
    rw [rt_row_eq, cl_0, t7, pk_cpy_in (by omega) (by omega), Nat.sub_zero, Nat.zero_add, rt_row_n (by omega), rt_row_n (by omega), fI 21 (by omega)]
  · rw [rt_up_n1 (by omega), rt_up_n1 (by omega)]
    show rt_row _ (p + 1 + 1 + 1 + 1) _ (p + 1 + 1 + 1 + 1) k = _
    rw [rt_row_eq, cl_0, t6, pk_cpy_in (by omega) (by omega), Nat.sub_zero, Nat.zero_add, rt_row_n (by omega), rt_row_n (by omega), rt_row_n (by omega), fI 22 (by omega)]
end P49

section P26
variable {T : Nat}
theorem a_and {a b : Nat} (ha : a < 2147483648) (hb : b < 2147483648) : nI a &&& nI b = nI (a &&& b) := by
  have h1 : a &&& b ≤ a := Nat.and_le_left
  apply Int32.toBitVec_inj.mp
  rw [Int32.toBitVec_and]
  apply BitVec.eq_of_toNat_eq
  rw [BitVec.toNat_and, pk_tn (by omega), pk_tn (by omega), pk_tn (by omega)]
theorem x_bc {m : Nat} (hm : m < 65536) {h : rt_H} : Ev mJ6_bitCount_0f7a4 0 [.int (nI m)] [] h = some (some (.int (nI (bcN m))), h) := by
  have c5 : (1431655765 : Int32) = nI 1431655765 := rfl
  have c3 : (858993459 : Int32) = nI 858993459 := rfl
  have cf : (252645135 : Int32) = nI 252645135 := rfl
  have c63 : (63 : Int32) = nI 63 := rfl
  have u : ∀ (n : Nat) (s : Int32) (k : Nat), n < 4294967296 → ((s.toUInt32 &&& Int32.toUInt32 31).toBitVec % 32).toNat = k → ((nI n).toUInt32 >>> (s.toUInt32 &&& Int32.toUInt32 31)).toInt32 = nI (n / 2 ^ k) := fun n s k h1 h2 => pk_ushrN h1 s k h2
  have l1 : bc1 m ≤ m := Nat.sub_le _ _
  have l2 : bc2 (bc1 m) ≤ bc1 m + bc1 m / 4 := Nat.add_le_add Nat.and_le_left Nat.and_le_left
  have l3 : bc3 (bc2 (bc1 m)) ≤ bc2 (bc1 m) + bc2 (bc1 m) / 16 := Nat.and_le_left
  have l4 : bc4 (bc3 (bc2 (bc1 m))) = bc3 (bc2 (bc1 m)) + bc3 (bc2 (bc1 m)) / 256 := rfl
  have l5 : bc5 (bc4 (bc3 (bc2 (bc1 m)))) = bc4 (bc3 (bc2 (bc1 m))) + bc4 (bc3 (bc2 (bc1 m))) / 65536 := rfl
  have s1 : Ev mJ6_bitCount_0f7a4 0 [.int (nI m)] [] h = Ev mJ6_bitCount_0f7a4 10 [.int (nI (bc1 m))] [] h := by
    simp (disch := first | exact rt_bo_0 | exact rt_bo_1 | exact ns_float | exact ns_int | exact ns_ref | assumption | omega | (simp (disch := omega) only [rt_in_0, rt_in_nI, Option.isSome_some, Option.getD_some, Bool.or_true, Bool.true_or]; done) | fail) only [e_J6_bitCount_0f7a4_0, e_J6_bitCount_0f7a4_1, e_J6_bitCount_0f7a4_2, e_J6_bitCount_0f7a4_3, e_J6_bitCount_0f7a4_4, e_J6_bitCount_0f7a4_7, e_J6_bitCount_0f7a4_8, e_J6_bitCount_0f7a4_9, e_J6_bitCount_0f7a4_11, e_J6_bitCount_0f7a4_14, e_J6_bitCount_0f7a4_15, e_J6_bitCount_0f7a4_16, e_J6_bitCount_0f7a4_17, e_J6_bitCount_0f7a4_18, e_J6_bitCount_0f7a4_21, e_J6_bitCount_0f7a4_22, e_J6_bitCount_0f7a4_23, e_J6_bitCount_0f7a4_24, e_J6_bitCount_0f7a4_25, e_J6_bitCount_0f7a4_26, e_J6_bitCount_0f7a4_27, e_J6_bitCount_0f7a4_28, e_J6_bitCount_0f7a4_29, e_J6_bitCount_0f7a4_32, e_J6_bitCount_0f7a4_33, e_J6_bitCount_0f7a4_34, e_J6_bitCount_0f7a4_35, e_J6_bitCount_0f7a4_36, e_J6_bitCount_0f7a4_38, e_J6_bitCount_0f7a4_39, e_J6_bitCount_0f7a4_40, e_J6_bitCount_0f7a4_41, e_J6_bitCount_0f7a4_42, e_J6_bitCount_0f7a4_43, e_J6_bitCount_0f7a4_45, e_J6_bitCount_0f7a4_46, e_J6_bitCount_0f7a4_47, e_J6_bitCount_0f7a4_48, e_J6_bitCount_0f7a4_49, e_J6_bitCount_0f7a4_51, e_J6_bitCount_0f7a4_52]
    have e1 : nI m - (((nI m).toUInt32 >>> ((1 : Int32).toUInt32 &&& Int32.toUInt32 31)).toInt32 &&& 1431655765) = nI (bc1 m) := by
      have hle : m / 2 ^ 1 &&& 1431655765 ≤ m / 2 ^ 1 := Nat.and_le_left
      rw [u m 1 1 (by omega) (by decide), c5, a_and (by omega) (by omega), pk_sub (by omega)]
      rfl
    rw [e1]
  have s2 : Ev mJ6_bitCount_0f7a4 10 [.int (nI (bc1 m))] [] h = Ev mJ6_bitCount_0f7a4 24 [.int (nI (bc2 (bc1 m)))] [] h := by
    generalize bc1 m = m at *
    rw [e_J6_bitCount_0f7a4_10]
    simp (disch := first | exact rt_bo_0 | exact rt_bo_1 | exact ns_float | exact ns_int | exact ns_ref | assumption | omega | (simp (disch := omega) only [rt_in_0, rt_in_nI, Option.isSome_some, Option.getD_some, Bool.or_true, Bool.true_or]; done) | fail) only [e_J6_bitCount_0f7a4_0, e_J6_bitCount_0f7a4_1, e_J6_bitCount_0f7a4_2, e_J6_bitCount_0f7a4_3, e_J6_bitCount_0f7a4_4, e_J6_bitCount_0f7a4_7, e_J6_bitCount_0f7a4_8, e_J6_bitCount_0f7a4_9, e_J6_bitCount_0f7a4_11, e_J6_bitCount_0f7a4_14, e_J6_bitCount_0f7a4_15, e_J6_bitCount_0f7a4_16, e_J6_bitCount_0f7a4_17, e_J6_bitCount_0f7a4_18, e_J6_bitCount_0f7a4_21, e_J6_bitCount_0f7a4_22, e_J6_bitCount_0f7a4_23, e_J6_bitCount_0f7a4_25, e_J6_bitCount_0f7a4_26, e_J6_bitCount_0f7a4_27, e_J6_bitCount_0f7a4_28, e_J6_bitCount_0f7a4_29, e_J6_bitCount_0f7a4_32, e_J6_bitCount_0f7a4_33, e_J6_bitCount_0f7a4_34, e_J6_bitCount_0f7a4_35, e_J6_bitCount_0f7a4_36, e_J6_bitCount_0f7a4_38, e_J6_bitCount_0f7a4_39, e_J6_bitCount_0f7a4_40, e_J6_bitCount_0f7a4_41, e_J6_bitCount_0f7a4_42, e_J6_bitCount_0f7a4_43, e_J6_bitCount_0f7a4_45, e_J6_bitCount_0f7a4_46, e_J6_bitCount_0f7a4_47, e_J6_bitCount_0f7a4_48, e_J6_bitCount_0f7a4_49, e_J6_bitCount_0f7a4_51, e_J6_bitCount_0f7a4_52]
    have e1 : (nI m &&& 858993459) + (((nI m).toUInt32 >>> ((2 : Int32).toUInt32 &&& Int32.toUInt32 31)).toInt32 &&& 858993459) = nI (bc2 m) := by
      rw [u m 2 2 (by omega) (by decide), c3, a_and (by omega) (by omega), a_and (by omega) (by omega), nI_add]
      rfl
    rw [e1]
  have s3 : Ev mJ6_bitCount_0f7a4 24 [.int (nI (bc2 (bc1 m)))] [] h = Ev mJ6_bitCount_0f7a4 34 [.int (nI (bc3 (bc2 (bc1 m))))] [] h := by
    generalize bc2 (bc1 m) = m at *
    rw [e_J6_bitCount_0f7a4_24]
    simp (disch := first | exact rt_bo_0 | exact rt_bo_1 | exact ns_float | exact ns_int | exact ns_ref | assumption | omega | (simp (disch := omega) only [rt_in_0, rt_in_nI, Option.isSome_some, Option.getD_some, Bool.or_true, Bool.true_or]; done) | fail) only [e_J6_bitCount_0f7a4_0, e_J6_bitCount_0f7a4_1, e_J6_bitCount_0f7a4_2, e_J6_bitCount_0f7a4_3, e_J6_bitCount_0f7a4_4, e_J6_bitCount_0f7a4_7, e_J6_bitCount_0f7a4_8, e_J6_bitCount_0f7a4_9, e_J6_bitCount_0f7a4_10, e_J6_bitCount_0f7a4_11, e_J6_bitCount_0f7a4_14, e_J6_bitCount_0f7a4_15, e_J6_bitCount_0f7a4_16, e_J6_bitCount_0f7a4_17, e_J6_bitCount_0f7a4_18, e_J6_bitCount_0f7a4_21, e_J6_bitCount_0f7a4_22, e_J6_bitCount_0f7a4_23, e_J6_bitCount_0f7a4_25, e_J6_bitCount_0f7a4_26, e_J6_bitCount_0f7a4_27, e_J6_bitCount_0f7a4_28, e_J6_bitCount_0f7a4_29, e_J6_bitCount_0f7a4_32, e_J6_bitCount_0f7a4_33, e_J6_bitCount_0f7a4_35, e_J6_bitCount_0f7a4_36, e_J6_bitCount_0f7a4_38, e_J6_bitCount_0f7a4_39, e_J6_bitCount_0f7a4_40, e_J6_bitCount_0f7a4_41, e_J6_bitCount_0f7a4_42, e_J6_bitCount_0f7a4_43, e_J6_bitCount_0f7a4_45, e_J6_bitCount_0f7a4_46, e_J6_bitCount_0f7a4_47, e_J6_bitCount_0f7a4_48, e_J6_bitCount_0f7a4_49, e_J6_bitCount_0f7a4_51, e_J6_bitCount_0f7a4_52]
    have e1 : (nI m + ((nI m).toUInt32 >>> ((4 : Int32).toUInt32 &&& Int32.toUInt32 31)).toInt32) &&& 252645135 = nI (bc3 m) := by
      rw [u m 4 4 (by omega) (by decide), cf, nI_add, a_and (by omega) (by omega)]
      rfl
    rw [e1]
  have s4 : Ev mJ6_bitCount_0f7a4 34 [.int (nI (bc3 (bc2 (bc1 m))))] [] h = Ev mJ6_bitCount_0f7a4 41 [.int (nI (bc4 (bc3 (bc2 (bc1 m)))))] [] h := by
    generalize bc3 (bc2 (bc1 m)) = m at *
    rw [e_J6_bitCount_0f7a4_34]
    simp (disch := first | exact rt_bo_0 | exact rt_bo_1 | exact ns_float | exact ns_int | exact ns_ref | assumption | omega | (simp (disch := omega) only [rt_in_0, rt_in_nI, Option.isSome_some, Option.getD_some, Bool.or_true, Bool.true_or]; done) | fail) only [e_J6_bitCount_0f7a4_0, e_J6_bitCount_0f7a4_1, e_J6_bitCount_0f7a4_2, e_J6_bitCount_0f7a4_3, e_J6_bitCount_0f7a4_4, e_J6_bitCount_0f7a4_7, e_J6_bitCount_0f7a4_8, e_J6_bitCount_0f7a4_9, e_J6_bitCount_0f7a4_10, e_J6_bitCount_0f7a4_11, e_J6_bitCount_0f7a4_14, e_J6_bitCount_0f7a4_15, e_J6_bitCount_0f7a4_16, e_J6_bitCount_0f7a4_17, e_J6_bitCount_0f7a4_18, e_J6_bitCount_0f7a4_21, e_J6_bitCount_0f7a4_22, e_J6_bitCount_0f7a4_23, e_J6_bitCount_0f7a4_24, e_J6_bitCount_0f7a4_25, e_J6_bitCount_0f7a4_26, e_J6_bitCount_0f7a4_27, e_J6_bitCount_0f7a4_28, e_J6_bitCount_0f7a4_29, e_J6_bitCount_0f7a4_32, e_J6_bitCount_0f7a4_33, e_J6_bitCount_0f7a4_35, e_J6_bitCount_0f7a4_36, e_J6_bitCount_0f7a4_38, e_J6_bitCount_0f7a4_39, e_J6_bitCount_0f7a4_40, e_J6_bitCount_0f7a4_42, e_J6_bitCount_0f7a4_43, e_J6_bitCount_0f7a4_45, e_J6_bitCount_0f7a4_46, e_J6_bitCount_0f7a4_47, e_J6_bitCount_0f7a4_48, e_J6_bitCount_0f7a4_49, e_J6_bitCount_0f7a4_51, e_J6_bitCount_0f7a4_52]
    have e1 : nI m + ((nI m).toUInt32 >>> ((8 : Int32).toUInt32 &&& Int32.toUInt32 31)).toInt32 = nI (bc4 m) := by
      rw [u m 8 8 (by omega) (by decide), nI_add]
      rfl
    rw [e1]
  have s5 : Ev mJ6_bitCount_0f7a4 41 [.int (nI (bc4 (bc3 (bc2 (bc1 m)))))] [] h = some (some (.int (nI (bcN m))), h) := by
    have hb : bcN m = bc5 (bc4 (bc3 (bc2 (bc1 m)))) &&& 63 := rfl
    rw [hb]
    generalize bc4 (bc3 (bc2 (bc1 m))) = m at *
    rw [e_J6_bitCount_0f7a4_41]
    simp (disch := first | exact rt_bo_0 | exact rt_bo_1 | exact ns_float | exact ns_int | exact ns_ref | assumption | omega | (simp (disch := omega) only [rt_in_0, rt_in_nI, Option.isSome_some, Option.getD_some, Bool.or_true, Bool.true_or]; done) | fail) only [e_J6_bitCount_0f7a4_0, e_J6_bitCount_0f7a4_1, e_J6_bitCount_0f7a4_2, e_J6_bitCount_0f7a4_3, e_J6_bitCount_0f7a4_4, e_J6_bitCount_0f7a4_7, e_J6_bitCount_0f7a4_8, e_J6_bitCount_0f7a4_9, e_J6_bitCount_0f7a4_10, e_J6_bitCount_0f7a4_11, e_J6_bitCount_0f7a4_14, e_J6_bitCount_0f7a4_15, e_J6_bitCount_0f7a4_16, e_J6_bitCount_0f7a4_17, e_J6_bitCount_0f7a4_18, e_J6_bitCount_0f7a4_21, e_J6_bitCount_0f7a4_22, e_J6_bitCount_0f7a4_23, e_J6_bitCount_0f7a4_24, e_J6_bitCount_0f7a4_25, e_J6_bitCount_0f7a4_26, e_J6_bitCount_0f7a4_27, e_J6_bitCount_0f7a4_28, e_J6_bitCount_0f7a4_29, e_J6_bitCount_0f7a4_32, e_J6_bitCount_0f7a4_33, e_J6_bitCount_0f7a4_34, e_J6_bitCount_0f7a4_35, e_J6_bitCount_0f7a4_36, e_J6_bitCount_0f7a4_38, e_J6_bitCount_0f7a4_39, e_J6_bitCount_0f7a4_40, e_J6_bitCount_0f7a4_42, e_J6_bitCount_0f7a4_43, e_J6_bitCount_0f7a4_45, e_J6_bitCount_0f7a4_46, e_J6_bitCount_0f7a4_47, e_J6_bitCount_0f7a4_48, e_J6_bitCount_0f7a4_49, e_J6_bitCount_0f7a4_51, e_J6_bitCount_0f7a4_52]
    have e1 : (nI m + ((nI m).toUInt32 >>> ((16 : Int32).toUInt32 &&& Int32.toUInt32 31)).toInt32) &&& 63 = nI (bc5 m &&& 63) := by
      rw [u m 16 16 (by omega) (by decide), c63, nI_add, a_and (by omega) (by omega)]
      rfl
    rw [e1]
  rw [s1, s2, s3, s4, s5]
theorem bs_nI {V : Nat → Bool} (hT : T ≤ 16) : ∃ m, m < 65536 ∧ bs V T = nI m ∧ ∀ i, i < 32 → m.testBit i = (decide (i < T) && V i) := by
  have hb := b_bs V T (by omega)
  refine ⟨(bs V T).toBitVec.toNat, ?_, ?_, ?_⟩
  · apply Nat.lt_of_not_le
    intro hge
    obtain ⟨i, hi, ht⟩ := Nat.exists_ge_and_testBit_of_ge_two_pow (n := 16) hge
    by_cases h32 : i < 32
    · have := hb i h32
      unfold bt at this
      rw [BitVec.getLsbD, ht] at this
      simp [show ¬ i < T by omega] at this
    · have := (bs V T).toBitVec.isLt
      have h2 : (bs V T).toBitVec.toNat < 2 ^ i := Nat.lt_of_lt_of_le this (Nat.pow_le_pow_right (by omega) (by omega))
      rw [Nat.testBit_lt_two_pow h2] at ht
      cases ht
  · apply Int32.toBitVec_inj.mp
    apply BitVec.eq_of_toNat_eq
    rw [pk_tn ((bs V T).toBitVec.isLt)]
  · intro i hi
    have := hb i hi
    unfold bt at this
    rw [BitVec.getLsbD] at this
    exact this
theorem pcn_cn {m : Nat} {V : Nat → Bool} : ∀ k, (∀ i, i < k → m.testBit i = V i) → pcn m k = cn V k := by
  intro k
  induction k with
  | zero => intro _; rfl
  | succ k ih =>
    intro h
    show pcn m k + (m / 2 ^ k) % 2 = if V k = true then cn V k + 1 else cn V k
    rw [ih (fun i hi => h i (by omega)), ← h k (by omega)]
    have ht : m.testBit k = decide (m / 2 ^ k % 2 = 1) := Nat.testBit_eq_decide_div_mod_eq
    rw [ht]
    by_cases hh : m / 2 ^ k % 2 = 1
    · simp [hh]
    · have h0 : m / 2 ^ k % 2 = 0 := by omega
      simp [h0]
theorem x_bits {V : Nat → Bool} (hT : T ≤ 16) {h : rt_H} : Ev mJ6_bitCount_0f7a4 0 [.int (bs V T)] [] h = some (some (.int (nI (cn V T))), h) := by
  obtain ⟨m, h1, h2, h3⟩ := bs_nI (V := V) hT
  rw [h2, x_bc h1, bcN_eq h1, pcn_cn 16 (fun i hi => h3 i (by omega)), cn_cut hT]
end P26

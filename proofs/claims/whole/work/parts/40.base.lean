/-! the static cells, a row each, by program (wip/gen_base.py) -/
theorem rt_ltn {i : Nat} (e : Nat) (h : i < 71) : i < 71 + e := Nat.lt_of_lt_of_le h (Nat.le_add_right _ _)
theorem ob_0 (e : Nat) : rt_ob (71 + e) 0 9 = true := by unfold rt_ob; rw [decide_eq_true (rt_ltn e (by decide))]; rfl
theorem ob_1 (e : Nat) : rt_ob (71 + e) 1 3 = true := by unfold rt_ob; rw [decide_eq_true (rt_ltn e (by decide))]; rfl
theorem ar_2 (e : Nat) : rt_ar (71 + e) 2 1 = true := by unfold rt_ar; rw [decide_eq_true (rt_ltn e (by decide))]; rfl
theorem ln_2 : rt_ln 2 = 16 := rfl
theorem ar_3 (e : Nat) : rt_ar (71 + e) 3 1 = true := by unfold rt_ar; rw [decide_eq_true (rt_ltn e (by decide))]; rfl
theorem ln_3 : rt_ln 3 = 16 := rfl
theorem ar_4 (e : Nat) : rt_ar (71 + e) 4 1 = true := by unfold rt_ar; rw [decide_eq_true (rt_ltn e (by decide))]; rfl
theorem ln_4 : rt_ln 4 = 16 := rfl
theorem ar_5 (e : Nat) : rt_ar (71 + e) 5 1 = true := by unfold rt_ar; rw [decide_eq_true (rt_ltn e (by decide))]; rfl
theorem ln_5 : rt_ln 5 = 16 := rfl
theorem ar_6 (e : Nat) : rt_ar (71 + e) 6 1 = true := by unfold rt_ar; rw [decide_eq_true (rt_ltn e (by decide))]; rfl
theorem ln_6 : rt_ln 6 = 1200 := rfl
theorem ob_7 (e : Nat) : rt_ob (71 + e) 7 7 = true := by unfold rt_ob; rw [decide_eq_true (rt_ltn e (by decide))]; rfl
theorem ar_8 (e : Nat) : rt_ar (71 + e) 8 1 = true := by unfold rt_ar; rw [decide_eq_true (rt_ltn e (by decide))]; rfl
theorem ln_8 : rt_ln 8 = 200 := rfl
theorem ob_9 (e : Nat) : rt_ob (71 + e) 9 8 = true := by unfold rt_ob; rw [decide_eq_true (rt_ltn e (by decide))]; rfl
theorem ar_10 (e : Nat) : rt_ar (71 + e) 10 1 = true := by unfold rt_ar; rw [decide_eq_true (rt_ltn e (by decide))]; rfl
theorem ln_10 : rt_ln 10 = 80 := rfl
theorem ar_11 (e : Nat) : rt_ar (71 + e) 11 1 = true := by unfold rt_ar; rw [decide_eq_true (rt_ltn e (by decide))]; rfl
theorem ln_11 : rt_ln 11 = 8 := rfl
theorem ar_12 (e : Nat) : rt_ar (71 + e) 12 5 = true := by unfold rt_ar; rw [decide_eq_true (rt_ltn e (by decide))]; rfl
theorem ln_12 : rt_ln 12 = 8 := rfl
theorem ar_13 (e : Nat) : rt_ar (71 + e) 13 1 = true := by unfold rt_ar; rw [decide_eq_true (rt_ltn e (by decide))]; rfl
theorem ln_13 : rt_ln 13 = 8 := rfl
theorem ar_14 (e : Nat) : rt_ar (71 + e) 14 1 = true := by unfold rt_ar; rw [decide_eq_true (rt_ltn e (by decide))]; rfl
theorem ln_14 : rt_ln 14 = 8 := rfl
theorem ob_15 (e : Nat) : rt_ob (71 + e) 15 0 = true := by unfold rt_ob; rw [decide_eq_true (rt_ltn e (by decide))]; rfl
theorem ar_16 (e : Nat) : rt_ar (71 + e) 16 1 = true := by unfold rt_ar; rw [decide_eq_true (rt_ltn e (by decide))]; rfl
theorem ln_16 : rt_ln 16 = 420 := rfl
theorem ob_17 (e : Nat) : rt_ob (71 + e) 17 4 = true := by unfold rt_ob; rw [decide_eq_true (rt_ltn e (by decide))]; rfl
theorem ob_18 (e : Nat) : rt_ob (71 + e) 18 1 = true := by unfold rt_ob; rw [decide_eq_true (rt_ltn e (by decide))]; rfl
theorem ar_19 (e : Nat) : rt_ar (71 + e) 19 1 = true := by unfold rt_ar; rw [decide_eq_true (rt_ltn e (by decide))]; rfl
theorem ln_19 : rt_ln 19 = 7 := rfl
theorem ar_20 (e : Nat) : rt_ar (71 + e) 20 1 = true := by unfold rt_ar; rw [decide_eq_true (rt_ltn e (by decide))]; rfl
theorem ln_20 : rt_ln 20 = 7 := rfl
theorem ar_21 (e : Nat) : rt_ar (71 + e) 21 1 = true := by unfold rt_ar; rw [decide_eq_true (rt_ltn e (by decide))]; rfl
theorem ln_21 : rt_ln 21 = 7 := rfl
theorem ar_22 (e : Nat) : rt_ar (71 + e) 22 1 = true := by unfold rt_ar; rw [decide_eq_true (rt_ltn e (by decide))]; rfl
theorem ln_22 : rt_ln 22 = 6 := rfl
theorem ob_23 (e : Nat) : rt_ob (71 + e) 23 2 = true := by unfold rt_ob; rw [decide_eq_true (rt_ltn e (by decide))]; rfl
theorem ar_24 (e : Nat) : rt_ar (71 + e) 24 1 = true := by unfold rt_ar; rw [decide_eq_true (rt_ltn e (by decide))]; rfl
theorem ln_24 : rt_ln 24 = 264 := rfl
theorem ar_25 (e : Nat) : rt_ar (71 + e) 25 1 = true := by unfold rt_ar; rw [decide_eq_true (rt_ltn e (by decide))]; rfl
theorem ln_25 : rt_ln 25 = 264 := rfl
theorem ar_26 (e : Nat) : rt_ar (71 + e) 26 1 = true := by unfold rt_ar; rw [decide_eq_true (rt_ltn e (by decide))]; rfl
theorem ln_26 : rt_ln 26 = 10 := rfl
theorem ob_27 (e : Nat) : rt_ob (71 + e) 27 5 = true := by unfold rt_ob; rw [decide_eq_true (rt_ltn e (by decide))]; rfl
theorem ar_28 (e : Nat) : rt_ar (71 + e) 28 1 = true := by unfold rt_ar; rw [decide_eq_true (rt_ltn e (by decide))]; rfl
theorem ln_28 : rt_ln 28 = 7 := rfl
theorem ar_29 (e : Nat) : rt_ar (71 + e) 29 1 = true := by unfold rt_ar; rw [decide_eq_true (rt_ltn e (by decide))]; rfl
theorem ln_29 : rt_ln 29 = 7 := rfl
theorem ar_30 (e : Nat) : rt_ar (71 + e) 30 1 = true := by unfold rt_ar; rw [decide_eq_true (rt_ltn e (by decide))]; rfl
theorem ln_30 : rt_ln 30 = 8 := rfl
theorem ob_31 (e : Nat) : rt_ob (71 + e) 31 6 = true := by unfold rt_ob; rw [decide_eq_true (rt_ltn e (by decide))]; rfl
theorem ar_32 (e : Nat) : rt_ar (71 + e) 32 1 = true := by unfold rt_ar; rw [decide_eq_true (rt_ltn e (by decide))]; rfl
theorem ln_32 : rt_ln 32 = 120 := rfl
theorem ob_33 (e : Nat) : rt_ob (71 + e) 33 10 = true := by unfold rt_ob; rw [decide_eq_true (rt_ltn e (by decide))]; rfl
theorem ar_34 (e : Nat) : rt_ar (71 + e) 34 1 = true := by unfold rt_ar; rw [decide_eq_true (rt_ltn e (by decide))]; rfl
theorem ln_34 : rt_ln 34 = 16 := rfl
theorem ar_35 (e : Nat) : rt_ar (71 + e) 35 1 = true := by unfold rt_ar; rw [decide_eq_true (rt_ltn e (by decide))]; rfl
theorem ln_35 : rt_ln 35 = 16 := rfl
theorem ar_36 (e : Nat) : rt_ar (71 + e) 36 1 = true := by unfold rt_ar; rw [decide_eq_true (rt_ltn e (by decide))]; rfl
theorem ln_36 : rt_ln 36 = 16 := rfl
theorem ar_37 (e : Nat) : rt_ar (71 + e) 37 1 = true := by unfold rt_ar; rw [decide_eq_true (rt_ltn e (by decide))]; rfl
theorem ln_37 : rt_ln 37 = 16 := rfl
theorem ar_38 (e : Nat) : rt_ar (71 + e) 38 1 = true := by unfold rt_ar; rw [decide_eq_true (rt_ltn e (by decide))]; rfl
theorem ln_38 : rt_ln 38 = 200 := rfl
theorem ar_39 (e : Nat) : rt_ar (71 + e) 39 1 = true := by unfold rt_ar; rw [decide_eq_true (rt_ltn e (by decide))]; rfl
theorem ln_39 : rt_ln 39 = 200 := rfl
theorem ar_40 (e : Nat) : rt_ar (71 + e) 40 1 = true := by unfold rt_ar; rw [decide_eq_true (rt_ltn e (by decide))]; rfl
theorem ln_40 : rt_ln 40 = 200 := rfl
theorem ar_41 (e : Nat) : rt_ar (71 + e) 41 1 = true := by unfold rt_ar; rw [decide_eq_true (rt_ltn e (by decide))]; rfl
theorem ln_41 : rt_ln 41 = 200 := rfl
theorem ar_42 (e : Nat) : rt_ar (71 + e) 42 1 = true := by unfold rt_ar; rw [decide_eq_true (rt_ltn e (by decide))]; rfl
theorem ln_42 : rt_ln 42 = 200 := rfl
theorem ar_43 (e : Nat) : rt_ar (71 + e) 43 1 = true := by unfold rt_ar; rw [decide_eq_true (rt_ltn e (by decide))]; rfl
theorem ln_43 : rt_ln 43 = 200 := rfl
theorem ar_44 (e : Nat) : rt_ar (71 + e) 44 2 = true := by unfold rt_ar; rw [decide_eq_true (rt_ltn e (by decide))]; rfl
theorem ln_44 : rt_ln 44 = 200 := rfl
theorem ar_45 (e : Nat) : rt_ar (71 + e) 45 4 = true := by unfold rt_ar; rw [decide_eq_true (rt_ltn e (by decide))]; rfl
theorem ln_45 : rt_ln 45 = 29 := rfl
theorem ar_46 (e : Nat) : rt_ar (71 + e) 46 4 = true := by unfold rt_ar; rw [decide_eq_true (rt_ltn e (by decide))]; rfl
theorem ln_46 : rt_ln 46 = 8 := rfl
theorem ar_47 (e : Nat) : rt_ar (71 + e) 47 1 = true := by unfold rt_ar; rw [decide_eq_true (rt_ltn e (by decide))]; rfl
theorem ln_47 : rt_ln 47 = 9 := rfl
theorem ar_48 (e : Nat) : rt_ar (71 + e) 48 1 = true := by unfold rt_ar; rw [decide_eq_true (rt_ltn e (by decide))]; rfl
theorem ln_48 : rt_ln 48 = 9 := rfl
theorem ar_49 (e : Nat) : rt_ar (71 + e) 49 1 = true := by unfold rt_ar; rw [decide_eq_true (rt_ltn e (by decide))]; rfl
theorem ln_49 : rt_ln 49 = 63 := rfl
theorem ar_50 (e : Nat) : rt_ar (71 + e) 50 1 = true := by unfold rt_ar; rw [decide_eq_true (rt_ltn e (by decide))]; rfl
theorem ln_50 : rt_ln 50 = 63 := rfl
theorem ar_51 (e : Nat) : rt_ar (71 + e) 51 1 = true := by unfold rt_ar; rw [decide_eq_true (rt_ltn e (by decide))]; rfl
theorem ln_51 : rt_ln 51 = 63 := rfl
theorem ar_52 (e : Nat) : rt_ar (71 + e) 52 1 = true := by unfold rt_ar; rw [decide_eq_true (rt_ltn e (by decide))]; rfl
theorem ln_52 : rt_ln 52 = 54 := rfl
theorem ar_53 (e : Nat) : rt_ar (71 + e) 53 1 = true := by unfold rt_ar; rw [decide_eq_true (rt_ltn e (by decide))]; rfl
theorem ln_53 : rt_ln 53 = 9 := rfl
theorem ar_54 (e : Nat) : rt_ar (71 + e) 54 1 = true := by unfold rt_ar; rw [decide_eq_true (rt_ltn e (by decide))]; rfl
theorem ln_54 : rt_ln 54 = 9 := rfl
theorem ar_55 (e : Nat) : rt_ar (71 + e) 55 1 = true := by unfold rt_ar; rw [decide_eq_true (rt_ltn e (by decide))]; rfl
theorem ln_55 : rt_ln 55 = 3000 := rfl
theorem ar_56 (e : Nat) : rt_ar (71 + e) 56 1 = true := by unfold rt_ar; rw [decide_eq_true (rt_ltn e (by decide))]; rfl
theorem ln_56 : rt_ln 56 = 3000 := rfl
theorem ar_57 (e : Nat) : rt_ar (71 + e) 57 1 = true := by unfold rt_ar; rw [decide_eq_true (rt_ltn e (by decide))]; rfl
theorem ln_57 : rt_ln 57 = 3000 := rfl
theorem ar_58 (e : Nat) : rt_ar (71 + e) 58 1 = true := by unfold rt_ar; rw [decide_eq_true (rt_ltn e (by decide))]; rfl
theorem ln_58 : rt_ln 58 = 3000 := rfl
theorem ar_59 (e : Nat) : rt_ar (71 + e) 59 1 = true := by unfold rt_ar; rw [decide_eq_true (rt_ltn e (by decide))]; rfl
theorem ln_59 : rt_ln 59 = 3000 := rfl
theorem ar_60 (e : Nat) : rt_ar (71 + e) 60 3 = true := by unfold rt_ar; rw [decide_eq_true (rt_ltn e (by decide))]; rfl
theorem ln_60 : rt_ln 60 = 3000 := rfl
theorem ar_61 (e : Nat) : rt_ar (71 + e) 61 3 = true := by unfold rt_ar; rw [decide_eq_true (rt_ltn e (by decide))]; rfl
theorem ln_61 : rt_ln 61 = 3000 := rfl
theorem ar_62 (e : Nat) : rt_ar (71 + e) 62 1 = true := by unfold rt_ar; rw [decide_eq_true (rt_ltn e (by decide))]; rfl
theorem ln_62 : rt_ln 62 = 420 := rfl
theorem ar_63 (e : Nat) : rt_ar (71 + e) 63 1 = true := by unfold rt_ar; rw [decide_eq_true (rt_ltn e (by decide))]; rfl
theorem ln_63 : rt_ln 63 = 63 := rfl
theorem ar_64 (e : Nat) : rt_ar (71 + e) 64 1 = true := by unfold rt_ar; rw [decide_eq_true (rt_ltn e (by decide))]; rfl
theorem ln_64 : rt_ln 64 = 8 := rfl
theorem ar_65 (e : Nat) : rt_ar (71 + e) 65 1 = true := by unfold rt_ar; rw [decide_eq_true (rt_ltn e (by decide))]; rfl
theorem ln_65 : rt_ln 65 = 16 := rfl
theorem ar_66 (e : Nat) : rt_ar (71 + e) 66 1 = true := by unfold rt_ar; rw [decide_eq_true (rt_ltn e (by decide))]; rfl
theorem ln_66 : rt_ln 66 = 100 := rfl
theorem ar_67 (e : Nat) : rt_ar (71 + e) 67 1 = true := by unfold rt_ar; rw [decide_eq_true (rt_ltn e (by decide))]; rfl
theorem ln_67 : rt_ln 67 = 100 := rfl
theorem ar_68 (e : Nat) : rt_ar (71 + e) 68 1 = true := by unfold rt_ar; rw [decide_eq_true (rt_ltn e (by decide))]; rfl
theorem ln_68 : rt_ln 68 = 100 := rfl
theorem ar_69 (e : Nat) : rt_ar (71 + e) 69 1 = true := by unfold rt_ar; rw [decide_eq_true (rt_ltn e (by decide))]; rfl
theorem ln_69 : rt_ln 69 = 20 := rfl
theorem ar_70 (e : Nat) : rt_ar (71 + e) 70 3 = true := by unfold rt_ar; rw [decide_eq_true (rt_ltn e (by decide))]; rfl
theorem ln_70 : rt_ln 70 = 20 := rfl
/-- which cell each reference of a static cell holds; a, b: the two rows of the readings -/
def rt_RGL (a b : Nat) : List (Nat × Nat × Nat) := [(0, 0, 1), (0, 1, 7), (0, 2, 9), (0, 3, 15), (0, 4, 17), (0, 5, 27), (0, 6, 31), (1, 0, 2), (1, 1, 3), (1, 2, 4), (1, 3, 5), (1, 4, 6), (7, 0, 8), (9, 0, 10), (9, 1, 11), (9, 2, 12), (9, 3, 13), (9, 4, 14), (15, 0, 16), (17, 0, 18), (17, 1, 23), (17, 2, 26), (18, 0, 19), (18, 1, 20), (18, 2, 21), (18, 3, 22), (23, 0, a), (23, 1, b), (27, 0, 1), (27, 1, 9), (27, 2, 15), (27, 3, 28), (27, 4, 29), (27, 5, 30), (31, 0, 32), (33, 2, 34), (33, 3, 35), (33, 4, 36), (33, 5, 37), (33, 6, 38), (33, 7, 39), (33, 8, 40), (33, 9, 41), (33, 10, 42), (33, 11, 43), (33, 12, 44), (33, 19, 45), (33, 20, 46), (33, 23, 47), (33, 24, 48), (33, 25, 49), (33, 26, 50), (33, 27, 51), (33, 28, 52), (33, 29, 53), (33, 30, 54), (33, 39, 55), (33, 40, 56), (33, 41, 57), (33, 42, 58), (33, 43, 59), (33, 44, 60), (33, 45, 61), (33, 48, 62), (33, 49, 63), (33, 50, 64), (33, 56, 65), (33, 57, 66), (33, 58, 67), (33, 59, 68), (33, 66, 69), (33, 67, 70)]
def RG (R : Nat → Nat → Option Nat) (a b : Nat) : Prop := ∀ q ∈ rt_RGL a b, R q.1 q.2.1 = some q.2.2
theorem rg_0_0 {R : Nat → Nat → Option Nat} {a b : Nat} (h : RG R a b) : R 0 0 = some 1 := h (0, 0, 1) (List.mem_of_getElem? (i := 0) rfl)
theorem rg_0_1 {R : Nat → Nat → Option Nat} {a b : Nat} (h : RG R a b) : R 0 1 = some 7 := h (0, 1, 7) (List.mem_of_getElem? (i := 1) rfl)
theorem rg_0_2 {R : Nat → Nat → Option Nat} {a b : Nat} (h : RG R a b) : R 0 2 = some 9 := h (0, 2, 9) (List.mem_of_getElem? (i := 2) rfl)
theorem rg_0_3 {R : Nat → Nat → Option Nat} {a b : Nat} (h : RG R a b) : R 0 3 = some 15 := h (0, 3, 15) (List.mem_of_getElem? (i := 3) rfl)
theorem rg_0_4 {R : Nat → Nat → Option Nat} {a b : Nat} (h : RG R a b) : R 0 4 = some 17 := h (0, 4, 17) (List.mem_of_getElem? (i := 4) rfl)
theorem rg_0_5 {R : Nat → Nat → Option Nat} {a b : Nat} (h : RG R a b) : R 0 5 = some 27 := h (0, 5, 27) (List.mem_of_getElem? (i := 5) rfl)
theorem rg_0_6 {R : Nat → Nat → Option Nat} {a b : Nat} (h : RG R a b) : R 0 6 = some 31 := h (0, 6, 31) (List.mem_of_getElem? (i := 6) rfl)
theorem rg_1_0 {R : Nat → Nat → Option Nat} {a b : Nat} (h : RG R a b) : R 1 0 = some 2 := h (1, 0, 2) (List.mem_of_getElem? (i := 7) rfl)
theorem rg_1_1 {R : Nat → Nat → Option Nat} {a b : Nat} (h : RG R a b) : R 1 1 = some 3 := h (1, 1, 3) (List.mem_of_getElem? (i := 8) rfl)
theorem rg_1_2 {R : Nat → Nat → Option Nat} {a b : Nat} (h : RG R a b) : R 1 2 = some 4 := h (1, 2, 4) (List.mem_of_getElem? (i := 9) rfl)
theorem rg_1_3 {R : Nat → Nat → Option Nat} {a b : Nat} (h : RG R a b) : R 1 3 = some 5 := h (1, 3, 5) (List.mem_of_getElem? (i := 10) rfl)
theorem rg_1_4 {R : Nat → Nat → Option Nat} {a b : Nat} (h : RG R a b) : R 1 4 = some 6 := h (1, 4, 6) (List.mem_of_getElem? (i := 11) rfl)
theorem rg_7_0 {R : Nat → Nat → Option Nat} {a b : Nat} (h : RG R a b) : R 7 0 = some 8 := h (7, 0, 8) (List.mem_of_getElem? (i := 12) rfl)
theorem rg_9_0 {R : Nat → Nat → Option Nat} {a b : Nat} (h : RG R a b) : R 9 0 = some 10 := h (9, 0, 10) (List.mem_of_getElem? (i := 13) rfl)
theorem rg_9_1 {R : Nat → Nat → Option Nat} {a b : Nat} (h : RG R a b) : R 9 1 = some 11 := h (9, 1, 11) (List.mem_of_getElem? (i := 14) rfl)
theorem rg_9_2 {R : Nat → Nat → Option Nat} {a b : Nat} (h : RG R a b) : R 9 2 = some 12 := h (9, 2, 12) (List.mem_of_getElem? (i := 15) rfl)
theorem rg_9_3 {R : Nat → Nat → Option Nat} {a b : Nat} (h : RG R a b) : R 9 3 = some 13 := h (9, 3, 13) (List.mem_of_getElem? (i := 16) rfl)
theorem rg_9_4 {R : Nat → Nat → Option Nat} {a b : Nat} (h : RG R a b) : R 9 4 = some 14 := h (9, 4, 14) (List.mem_of_getElem? (i := 17) rfl)
theorem rg_15_0 {R : Nat → Nat → Option Nat} {a b : Nat} (h : RG R a b) : R 15 0 = some 16 := h (15, 0, 16) (List.mem_of_getElem? (i := 18) rfl)
theorem rg_17_0 {R : Nat → Nat → Option Nat} {a b : Nat} (h : RG R a b) : R 17 0 = some 18 := h (17, 0, 18) (List.mem_of_getElem? (i := 19) rfl)
theorem rg_17_1 {R : Nat → Nat → Option Nat} {a b : Nat} (h : RG R a b) : R 17 1 = some 23 := h (17, 1, 23) (List.mem_of_getElem? (i := 20) rfl)
theorem rg_17_2 {R : Nat → Nat → Option Nat} {a b : Nat} (h : RG R a b) : R 17 2 = some 26 := h (17, 2, 26) (List.mem_of_getElem? (i := 21) rfl)
theorem rg_18_0 {R : Nat → Nat → Option Nat} {a b : Nat} (h : RG R a b) : R 18 0 = some 19 := h (18, 0, 19) (List.mem_of_getElem? (i := 22) rfl)
theorem rg_18_1 {R : Nat → Nat → Option Nat} {a b : Nat} (h : RG R a b) : R 18 1 = some 20 := h (18, 1, 20) (List.mem_of_getElem? (i := 23) rfl)
theorem rg_18_2 {R : Nat → Nat → Option Nat} {a b : Nat} (h : RG R a b) : R 18 2 = some 21 := h (18, 2, 21) (List.mem_of_getElem? (i := 24) rfl)
theorem rg_18_3 {R : Nat → Nat → Option Nat} {a b : Nat} (h : RG R a b) : R 18 3 = some 22 := h (18, 3, 22) (List.mem_of_getElem? (i := 25) rfl)
theorem rg_23_0 {R : Nat → Nat → Option Nat} {a b : Nat} (h : RG R a b) : R 23 0 = some a := h (23, 0, a) (List.mem_of_getElem? (i := 26) rfl)
theorem rg_23_1 {R : Nat → Nat → Option Nat} {a b : Nat} (h : RG R a b) : R 23 1 = some b := h (23, 1, b) (List.mem_of_getElem? (i := 27) rfl)
theorem rg_27_0 {R : Nat → Nat → Option Nat} {a b : Nat} (h : RG R a b) : R 27 0 = some 1 := h (27, 0, 1) (List.mem_of_getElem? (i := 28) rfl)
theorem rg_27_1 {R : Nat → Nat → Option Nat} {a b : Nat} (h : RG R a b) : R 27 1 = some 9 := h (27, 1, 9) (List.mem_of_getElem? (i := 29) rfl)
theorem rg_27_2 {R : Nat → Nat → Option Nat} {a b : Nat} (h : RG R a b) : R 27 2 = some 15 := h (27, 2, 15) (List.mem_of_getElem? (i := 30) rfl)
theorem rg_27_3 {R : Nat → Nat → Option Nat} {a b : Nat} (h : RG R a b) : R 27 3 = some 28 := h (27, 3, 28) (List.mem_of_getElem? (i := 31) rfl)
theorem rg_27_4 {R : Nat → Nat → Option Nat} {a b : Nat} (h : RG R a b) : R 27 4 = some 29 := h (27, 4, 29) (List.mem_of_getElem? (i := 32) rfl)
theorem rg_27_5 {R : Nat → Nat → Option Nat} {a b : Nat} (h : RG R a b) : R 27 5 = some 30 := h (27, 5, 30) (List.mem_of_getElem? (i := 33) rfl)
theorem rg_31_0 {R : Nat → Nat → Option Nat} {a b : Nat} (h : RG R a b) : R 31 0 = some 32 := h (31, 0, 32) (List.mem_of_getElem? (i := 34) rfl)
theorem rg_33_2 {R : Nat → Nat → Option Nat} {a b : Nat} (h : RG R a b) : R 33 2 = some 34 := h (33, 2, 34) (List.mem_of_getElem? (i := 35) rfl)
theorem rg_33_3 {R : Nat → Nat → Option Nat} {a b : Nat} (h : RG R a b) : R 33 3 = some 35 := h (33, 3, 35) (List.mem_of_getElem? (i := 36) rfl)
theorem rg_33_4 {R : Nat → Nat → Option Nat} {a b : Nat} (h : RG R a b) : R 33 4 = some 36 := h (33, 4, 36) (List.mem_of_getElem? (i := 37) rfl)
theorem rg_33_5 {R : Nat → Nat → Option Nat} {a b : Nat} (h : RG R a b) : R 33 5 = some 37 := h (33, 5, 37) (List.mem_of_getElem? (i := 38) rfl)
theorem rg_33_6 {R : Nat → Nat → Option Nat} {a b : Nat} (h : RG R a b) : R 33 6 = some 38 := h (33, 6, 38) (List.mem_of_getElem? (i := 39) rfl)
theorem rg_33_7 {R : Nat → Nat → Option Nat} {a b : Nat} (h : RG R a b) : R 33 7 = some 39 := h (33, 7, 39) (List.mem_of_getElem? (i := 40) rfl)
theorem rg_33_8 {R : Nat → Nat → Option Nat} {a b : Nat} (h : RG R a b) : R 33 8 = some 40 := h (33, 8, 40) (List.mem_of_getElem? (i := 41) rfl)
theorem rg_33_9 {R : Nat → Nat → Option Nat} {a b : Nat} (h : RG R a b) : R 33 9 = some 41 := h (33, 9, 41) (List.mem_of_getElem? (i := 42) rfl)
theorem rg_33_10 {R : Nat → Nat → Option Nat} {a b : Nat} (h : RG R a b) : R 33 10 = some 42 := h (33, 10, 42) (List.mem_of_getElem? (i := 43) rfl)
theorem rg_33_11 {R : Nat → Nat → Option Nat} {a b : Nat} (h : RG R a b) : R 33 11 = some 43 := h (33, 11, 43) (List.mem_of_getElem? (i := 44) rfl)
theorem rg_33_12 {R : Nat → Nat → Option Nat} {a b : Nat} (h : RG R a b) : R 33 12 = some 44 := h (33, 12, 44) (List.mem_of_getElem? (i := 45) rfl)
theorem rg_33_19 {R : Nat → Nat → Option Nat} {a b : Nat} (h : RG R a b) : R 33 19 = some 45 := h (33, 19, 45) (List.mem_of_getElem? (i := 46) rfl)
theorem rg_33_20 {R : Nat → Nat → Option Nat} {a b : Nat} (h : RG R a b) : R 33 20 = some 46 := h (33, 20, 46) (List.mem_of_getElem? (i := 47) rfl)
theorem rg_33_23 {R : Nat → Nat → Option Nat} {a b : Nat} (h : RG R a b) : R 33 23 = some 47 := h (33, 23, 47) (List.mem_of_getElem? (i := 48) rfl)
theorem rg_33_24 {R : Nat → Nat → Option Nat} {a b : Nat} (h : RG R a b) : R 33 24 = some 48 := h (33, 24, 48) (List.mem_of_getElem? (i := 49) rfl)
theorem rg_33_25 {R : Nat → Nat → Option Nat} {a b : Nat} (h : RG R a b) : R 33 25 = some 49 := h (33, 25, 49) (List.mem_of_getElem? (i := 50) rfl)
theorem rg_33_26 {R : Nat → Nat → Option Nat} {a b : Nat} (h : RG R a b) : R 33 26 = some 50 := h (33, 26, 50) (List.mem_of_getElem? (i := 51) rfl)
theorem rg_33_27 {R : Nat → Nat → Option Nat} {a b : Nat} (h : RG R a b) : R 33 27 = some 51 := h (33, 27, 51) (List.mem_of_getElem? (i := 52) rfl)
theorem rg_33_28 {R : Nat → Nat → Option Nat} {a b : Nat} (h : RG R a b) : R 33 28 = some 52 := h (33, 28, 52) (List.mem_of_getElem? (i := 53) rfl)
theorem rg_33_29 {R : Nat → Nat → Option Nat} {a b : Nat} (h : RG R a b) : R 33 29 = some 53 := h (33, 29, 53) (List.mem_of_getElem? (i := 54) rfl)
theorem rg_33_30 {R : Nat → Nat → Option Nat} {a b : Nat} (h : RG R a b) : R 33 30 = some 54 := h (33, 30, 54) (List.mem_of_getElem? (i := 55) rfl)
theorem rg_33_39 {R : Nat → Nat → Option Nat} {a b : Nat} (h : RG R a b) : R 33 39 = some 55 := h (33, 39, 55) (List.mem_of_getElem? (i := 56) rfl)
theorem rg_33_40 {R : Nat → Nat → Option Nat} {a b : Nat} (h : RG R a b) : R 33 40 = some 56 := h (33, 40, 56) (List.mem_of_getElem? (i := 57) rfl)
theorem rg_33_41 {R : Nat → Nat → Option Nat} {a b : Nat} (h : RG R a b) : R 33 41 = some 57 := h (33, 41, 57) (List.mem_of_getElem? (i := 58) rfl)
theorem rg_33_42 {R : Nat → Nat → Option Nat} {a b : Nat} (h : RG R a b) : R 33 42 = some 58 := h (33, 42, 58) (List.mem_of_getElem? (i := 59) rfl)
theorem rg_33_43 {R : Nat → Nat → Option Nat} {a b : Nat} (h : RG R a b) : R 33 43 = some 59 := h (33, 43, 59) (List.mem_of_getElem? (i := 60) rfl)
theorem rg_33_44 {R : Nat → Nat → Option Nat} {a b : Nat} (h : RG R a b) : R 33 44 = some 60 := h (33, 44, 60) (List.mem_of_getElem? (i := 61) rfl)
theorem rg_33_45 {R : Nat → Nat → Option Nat} {a b : Nat} (h : RG R a b) : R 33 45 = some 61 := h (33, 45, 61) (List.mem_of_getElem? (i := 62) rfl)
theorem rg_33_48 {R : Nat → Nat → Option Nat} {a b : Nat} (h : RG R a b) : R 33 48 = some 62 := h (33, 48, 62) (List.mem_of_getElem? (i := 63) rfl)
theorem rg_33_49 {R : Nat → Nat → Option Nat} {a b : Nat} (h : RG R a b) : R 33 49 = some 63 := h (33, 49, 63) (List.mem_of_getElem? (i := 64) rfl)
theorem rg_33_50 {R : Nat → Nat → Option Nat} {a b : Nat} (h : RG R a b) : R 33 50 = some 64 := h (33, 50, 64) (List.mem_of_getElem? (i := 65) rfl)
theorem rg_33_56 {R : Nat → Nat → Option Nat} {a b : Nat} (h : RG R a b) : R 33 56 = some 65 := h (33, 56, 65) (List.mem_of_getElem? (i := 66) rfl)
theorem rg_33_57 {R : Nat → Nat → Option Nat} {a b : Nat} (h : RG R a b) : R 33 57 = some 66 := h (33, 57, 66) (List.mem_of_getElem? (i := 67) rfl)
theorem rg_33_58 {R : Nat → Nat → Option Nat} {a b : Nat} (h : RG R a b) : R 33 58 = some 67 := h (33, 58, 67) (List.mem_of_getElem? (i := 68) rfl)
theorem rg_33_59 {R : Nat → Nat → Option Nat} {a b : Nat} (h : RG R a b) : R 33 59 = some 68 := h (33, 59, 68) (List.mem_of_getElem? (i := 69) rfl)
theorem rg_33_66 {R : Nat → Nat → Option Nat} {a b : Nat} (h : RG R a b) : R 33 66 = some 69 := h (33, 66, 69) (List.mem_of_getElem? (i := 70) rfl)
theorem rg_33_67 {R : Nat → Nat → Option Nat} {a b : Nat} (h : RG R a b) : R 33 67 = some 70 := h (33, 67, 70) (List.mem_of_getElem? (i := 71) rfl)
theorem ns_int {x : Int32} : rt_ns (.int x) = true := rfl
theorem ns_float : rt_ns (.float 0) = true := rfl
theorem ns_ref {x : Nat} : rt_ns (.ref x) = true := rfl
theorem rt_up_app {α : Type} {f : Nat → Nat → α} {i k a b : Nat} {v : α} : rt_up f i k v a b = if a = i then (if b = k then v else f a b) else f a b := by
  unfold rt_up
  by_cases h : a = i <;> simp [h]
theorem rt_row_app {α : Type} {f : Nat → Nat → α} {i a b : Nat} {g : Nat → α} : rt_row f i g a b = if a = i then g b else f a b := by
  unfold rt_row
  by_cases h : a = i <;> simp [h]
theorem rt_bo_0 : rt_bo 0 = true := rfl
theorem rt_bo_1 : rt_bo 1 = true := rfl
theorem rt_in_nI {j n : Nat} (h : j < n) (hn : n < 2147483648) : rt_in (nI j) n = true := by
  unfold rt_in
  rw [nI_clamp (by omega)]
  simp [h, nI_pos' (show j < 2 ^ 31 by omega)]
theorem nI_cl {j : Nat} (h : j < 2147483648) : (nI j).toNatClampNeg = j := nI_clamp h

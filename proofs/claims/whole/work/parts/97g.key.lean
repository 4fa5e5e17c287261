section P60
variable {w v : List Nat}
theorem lgc0 (x y : Int64) : (lg_cmp x y = 0) = (x = y) := by
  unfold lg_cmp
  by_cases h : x = y
  · subst h
    have h1 : ¬ x > x := by
      intro h1
      rw [gt_iff_lt, Int64.lt_iff_toInt_lt] at h1
      omega
    simp [h1]
  · by_cases h1 : x > y
    · simp [h1, h]
    · simp [h1, h]
theorem kyN_lt : ∀ (f : Nat) (w : List Nat), w.length = f → (∀ c, c ∈ w → 97 ≤ c ∧ c ≤ 122) → kyN w < 27 ^ f := by
  intro f
  induction f with
  | zero =>
    intro w hl _
    rw [List.eq_nil_of_length_eq_zero hl]
    decide
  | succ f ih =>
    intro w hl hc
    have hne : w ≠ [] := by intro h; rw [h] at hl; cases hl
    rw [← List.dropLast_concat_getLast hne] at hc ⊢
    have h1 := ih w.dropLast (by rw [List.length_dropLast, hl]; rfl) (fun c h => hc c (List.mem_append_left _ h))
    have h2 := hc (w.getLast hne) (List.mem_append_right _ (List.mem_singleton.mpr rfl))
    rw [kyN_snoc, Nat.pow_succ]
    omega
theorem kyN_inj : ∀ (f : Nat) (w v : List Nat), w.length = f → (∀ c, c ∈ w → 97 ≤ c ∧ c ≤ 122) → (∀ c, c ∈ v → 97 ≤ c ∧ c ≤ 122) → kyN w = kyN v → w = v := by
  intro f
  induction f with
  | zero =>
    intro w v hl _ hv h
    rw [List.eq_nil_of_length_eq_zero hl] at h ⊢
    by_cases hne : v = []
    · exact hne.symm
    · exfalso
      rw [← List.dropLast_concat_getLast hne] at hv h
      have h2 := hv (v.getLast hne) (List.mem_append_right _ (List.mem_singleton.mpr rfl))
      rw [kyN_snoc] at h
      have h0 : kyN [] = 0 := rfl
      omega
  | succ f ih =>
    intro w v hl hw hv h
    have hne : w ≠ [] := by intro h; rw [h] at hl; cases hl
    have hw2 := hw (w.getLast hne) (List.getLast_mem hne)
    have ew := List.dropLast_concat_getLast hne
    by_cases hnv : v = []
    · exfalso
      subst hnv
      rw [← ew, kyN_snoc] at h
      have h0 : kyN [] = 0 := rfl
      omega
    · have hv2 := hv (v.getLast hnv) (List.getLast_mem hnv)
      have ev := List.dropLast_concat_getLast hnv
      rw [← ew, ← ev, kyN_snoc, kyN_snoc] at h
      have h1 : kyN w.dropLast = kyN v.dropLast := by omega
      have h3 : w.getLast hne = v.getLast hnv := by omega
      have h4 := ih w.dropLast v.dropLast (by rw [List.length_dropLast, hl]; rfl) (fun c hc => hw c (List.dropLast_subset _ hc)) (fun c hc => hv c (List.dropLast_subset _ hc)) h1
      rw [← ew, ← ev, h4, h3]
end P60

/-! THE WORLD of the small machine's cells: cell i lies at b0 + i -/
def rt_tbL : List u_T := [TX0, TX1, TX2, TX3, TX4, TX5, TX6, TX7, TX8, TX9, TX10]
def rt_tb (ci : Nat) : u_T := rt_tbL.getD ci TX0
def rt_tyL : List (Nat → FieldType) := [tyX0, tyX1, tyX2, tyX3, tyX4, tyX5, tyX6, tyX7, tyX8, tyX9, tyX10]
def rt_ty (ci : Nat) : Nat → FieldType := rt_tyL.getD ci tyX0
def rt_cv (b0 : Nat) (sA : Nat → Nat) : Value → Value
  | .ref i => .ref (b0 + i)
  | .retAddr j => .ref (sA j)
  | v => v
def rt_fv (b0 : Nat) (fi : Nat → Int32) (fl : Nat → Int64) (fr : Nat → Option Nat) (ci k : Nat) : Value := match rt_ft ci k with
  | 0 => .int (fi k)
  | 1 => .int (fi k)
  | 2 => .long (fl k)
  | _ => va_rf ((fr k).map (b0 + ·))
def rt_fs (b0 : Nat) (fi : Nat → Int32) (fl : Nat → Int64) (fr : Nat → Option Nat) (ci : Nat) : List Value := (List.range (rt_nf ci)).map (rt_fv b0 fi fl fr ci)
def rt_en (b0 : Nat) (cs : Nat → ClassId) (kd : Nat × Nat) (fi : Nat → Int32) (fl : Nat → Int64) (fr : Nat → Option Nat) : va_E := match kd.1 with
  | 0 => .inr (kd.2, rt_fs b0 fi fl fr kd.2)
  | 1 => .inl (cs 1, kd.2, .inl fi)
  | 2 => .inl (cs 2, kd.2, .inl fi)
  | 3 => .inl (cs 3, kd.2, .inl fi)
  | 4 => .inl (cs 4, kd.2, .inr (.inl fl))
  | _ => .inl (cs 5, kd.2, .inr (.inr (.inr (.inr (fun k => (fr k).map (b0 + ·))))))
def rt_wd (b0 : Nat) (cs : Nat → ClassId) (h : rt_H) : va_W := (List.range h.1).map (fun i => (b0 + i, rt_en b0 cs (rt_kd i) (h.2.1 i) (h.2.2.1 i) (h.2.2.2 i)))
theorem rt_wd_at {b0 : Nat} {cs : Nat → ClassId} {h : rt_H} {i : Nat} (hi : i < h.1) : (rt_wd b0 cs h)[i]? = some (b0 + i, rt_en b0 cs (rt_kd i) (h.2.1 i) (h.2.2.1 i) (h.2.2.2 i)) := by
  simp [rt_wd, List.getElem?_map, List.getElem?_range hi]
theorem rt_wd_len {b0 : Nat} {cs : Nat → ClassId} {h : rt_H} : (rt_wd b0 cs h).length = h.1 := by simp [rt_wd]
theorem rt_wd_inv {b0 : Nat} {cs : Nat → ClassId} {h : rt_H} {i : Nat} {q : Nat × va_E} (e : (rt_wd b0 cs h)[i]? = some q) : i < h.1 ∧ q.1 = b0 + i := by
  have hi : i < h.1 := by
    have := (List.getElem?_eq_some_iff.mp e).1
    rwa [rt_wd_len] at this
  rw [rt_wd_at hi] at e
  cases e
  exact ⟨hi, rfl⟩
/-- the cells are apart, and lie from b0 on -/
theorem rt_wd_D {b0 : Nat} {cs : Nat → ClassId} {h : rt_H} : va_D (fun q => b0 ≤ q) (rt_wd b0 cs h) := by
  refine ⟨fun i j p q hi hj hpq => ?_, fun k q hk => ?_⟩
  · have h1 := (rt_wd_inv hi).2
    have h2 := (rt_wd_inv hj).2
    omega
  · have h1 := (rt_wd_inv hk).2
    show b0 ≤ q.1
    omega
/-- one cell's rows change -/
theorem rt_wd_set {b0 : Nat} {cs : Nat → ClassId} {n i : Nat} {I I' : Nat → Nat → Int32} {L L' : Nat → Nat → Int64} {R R' : Nat → Nat → Option Nat} {e : va_E} (hi : i < n)
    (h1 : ∀ j, j ≠ i → I' j = I j) (h2 : ∀ j, j ≠ i → L' j = L j) (h3 : ∀ j, j ≠ i → R' j = R j) (he : rt_en b0 cs (rt_kd i) (I' i) (L' i) (R' i) = e) :
    (rt_wd b0 cs (n, I, L, R)).set i (b0 + i, e) = rt_wd b0 cs (n, I', L', R') := by
  apply List.ext_getElem?
  intro j
  by_cases hj : j < n
  · rw [rt_wd_at (h := (n, I', L', R')) hj]
    by_cases hji : j = i
    · subst hji
      rw [List.getElem?_set_self (by rw [rt_wd_len]; exact hj), ← he]
    · rw [List.getElem?_set_ne (Ne.symm hji), rt_wd_at (h := (n, I, L, R)) hj]
      dsimp only
      rw [h1 j hji, h2 j hji, h3 j hji]
  · rw [List.getElem?_eq_none (by rw [List.length_set, rt_wd_len]; exact Nat.le_of_not_lt hj), List.getElem?_eq_none (by rw [rt_wd_len]; exact Nat.le_of_not_lt hj)]
theorem rt_wd_push {b0 : Nat} {cs : Nat → ClassId} {n : Nat} {I : Nat → Nat → Int32} {L : Nat → Nat → Int64} {R : Nat → Nat → Option Nat} {e : va_E} (he : rt_en b0 cs (rt_kd n) (fun _ => 0) (fun _ => 0) (fun _ => none) = e) :
    rt_wd b0 cs (n, I, L, R) ++ [(b0 + n, e)] = rt_wd b0 cs (n + 1, rt_row I n (fun _ => 0), rt_row L n (fun _ => 0), rt_row R n (fun _ => none)) := by
  apply List.ext_getElem?
  intro j
  by_cases hj : j < n
  · rw [List.getElem?_append_left (by rw [rt_wd_len]; exact hj), rt_wd_at (h := (n, I, L, R)) hj, rt_wd_at (h := (n + 1, _, _, _)) (Nat.lt_succ_of_lt hj)]
    simp [rt_row, Nat.ne_of_lt hj]
  · by_cases hjn : j = n
    · subst hjn
      rw [List.getElem?_append_right (by rw [rt_wd_len]; exact Nat.le_refl _), rt_wd_at (h := (j + 1, _, _, _)) (Nat.lt_succ_self j), ← he]
      simp [rt_row, rt_wd_len]
    · rw [List.getElem?_eq_none (by rw [List.length_append, rt_wd_len]; simp; omega), List.getElem?_eq_none (by rw [rt_wd_len]; show n + 1 ≤ j; omega)]
theorem rt_up_ne {α : Type} {f : Nat → Nat → α} {i k j : Nat} {v : α} (h : j ≠ i) : rt_up f i k v j = f j := by simp [rt_up, h]
theorem rt_up_at {α : Type} {f : Nat → Nat → α} {i k : Nat} {v : α} : rt_up f i k v i = fun b => if b = k then v else f i b := by simp [rt_up]
theorem rt_row_ne {α : Type} {f : Nat → Nat → α} {i j : Nat} {g : Nat → α} (h : j ≠ i) : rt_row f i g j = f j := by simp [rt_row, h]
theorem rt_row_at {α : Type} {f : Nat → Nat → α} {i : Nat} {g : Nat → α} : rt_row f i g i = g := by simp [rt_row]
theorem rt_fs_at {b0 : Nat} {fi : Nat → Int32} {fl : Nat → Int64} {fr : Nat → Option Nat} {ci k : Nat} (hk : k < rt_nf ci) : (rt_fs b0 fi fl fr ci)[k]? = some (rt_fv b0 fi fl fr ci k) := by
  simp [rt_fs, List.getElem?_map, List.getElem?_range hk]
theorem rt_fs_len {b0 : Nat} {fi : Nat → Int32} {fl : Nat → Int64} {fr : Nat → Option Nat} {ci : Nat} : (rt_fs b0 fi fl fr ci).length = rt_nf ci := by simp [rt_fs]
theorem rt_fs_set {b0 : Nat} {fi fi' : Nat → Int32} {fl fl' : Nat → Int64} {fr fr' : Nat → Option Nat} {ci k : Nat} {v : Value} (h1 : ∀ j, j ≠ k → fi' j = fi j) (h2 : ∀ j, j ≠ k → fl' j = fl j) (h3 : ∀ j, j ≠ k → fr' j = fr j) (hv : rt_fv b0 fi' fl' fr' ci k = v) :
    (rt_fs b0 fi fl fr ci).set k v = rt_fs b0 fi' fl' fr' ci := by
  apply List.ext_getElem?
  intro j
  by_cases hj : j < rt_nf ci
  · rw [rt_fs_at hj]
    by_cases hjk : j = k
    · subst hjk
      rw [List.getElem?_set_self (by rw [rt_fs_len]; exact hj), ← hv]
    · rw [List.getElem?_set_ne (Ne.symm hjk), rt_fs_at hj]
      simp only [rt_fv, h1 j hjk, h2 j hjk, h3 j hjk]
  · rw [List.getElem?_eq_none (by rw [List.length_set, rt_fs_len]; exact Nat.le_of_not_lt hj), List.getElem?_eq_none (by rw [rt_fs_len]; exact Nat.le_of_not_lt hj)]
/-- the slots that the first n cells take -/
def rt_sz (i : Nat) : Nat := if (rt_kd i).1 = 0 then rt_nf (rt_kd i).2 else (rt_kd i).2
def rt_sl : Nat → Nat
  | 0 => 0
  | n + 1 => rt_sl n + rt_sz n
theorem rt_sl_le {a b : Nat} (h : a ≤ b) : rt_sl a ≤ rt_sl b := by
  obtain ⟨d, rfl⟩ : ∃ d, b = a + d := ⟨b - a, by omega⟩
  clear h
  induction d with
  | zero => exact Nat.le_refl _
  | succ d ih => exact Nat.le_trans ih (by show rt_sl (a + d) ≤ rt_sl (a + d) + rt_sz (a + d); omega)
/-- the locals as the kit lists them -/
def rt_lv1 (b0 : Nat) (sA : Nat → Nat) (i : Nat) : Option Value → Option (Nat × Value)
  | some (.int x) => some (i, .int x)
  | some (.long x) => some (i, .long x)
  | some (.ref x) => some (i, rt_cv b0 sA (.ref x))
  | some (.retAddr x) => some (i, rt_cv b0 sA (.retAddr x))
  | _ => none
def rt_lv (b0 : Nat) (sA : Nat → Nat) (ls : List Value) : List (Nat × Value) := (List.range ls.length).filterMap (fun i => rt_lv1 b0 sA i ls[i]?)
def rt_pl : Value → Bool
  | .int _ => true
  | .long _ => true
  | .ref _ => true
  | .retAddr _ => true
  | _ => false
theorem rt_lv_mem {b0 : Nat} {sA : Nat → Nat} {ls : List Value} {q : Nat × Value} : q ∈ rt_lv b0 sA ls ↔ ∃ v, ls[q.1]? = some v ∧ rt_pl v = true ∧ q.2 = rt_cv b0 sA v := by
  unfold rt_lv
  rw [List.mem_filterMap]
  constructor
  · rintro ⟨i, hi, e⟩
    cases hv : ls[i]? with
    | none => rw [hv] at e; cases e
    | some v =>
      rw [hv] at e
      cases v <;> first | (cases e; exact ⟨_, hv, rfl, rfl⟩) | cases e
  · rintro ⟨v, h1, h2, h3⟩
    have hl : q.1 < ls.length := (List.getElem?_eq_some_iff.mp h1).1
    refine ⟨q.1, List.mem_range.mpr hl, ?_⟩
    rw [h1]
    obtain ⟨i, w⟩ := q
    dsimp only at h3
    subst h3
    cases v <;> first | rfl | cases h2
theorem rt_has_mono {ls : Array Slot} {n : Nat} {l l' : List (Nat × Value)} (h : lv_has ls n l) (hs : ∀ q ∈ l', q ∈ l) : lv_has ls n l' := ⟨h.1, h.2.1, fun q hq => h.2.2 q (hs q hq)⟩
/-- the locals are n; a long stands before its mark -/
def rt_lok (n : Nat) (ls : List Value) : Prop := ls.length = n ∧ ∀ (j : Nat) (x : Int64), ls[j]? = some (.long x) → ls[j + 1]? = some (.double 0)
theorem rt_cv_cat {b0 : Nat} {sA : Nat → Nat} (v : Value) : (rt_cv b0 sA v).category = v.category := by cases v <;> rfl
theorem rt_cv_cs {b0 : Nat} {sA : Nat → Nat} (st : List Value) : ((st.map (rt_cv b0 sA)).map fun v => v.category).sum = rt_cs st := by
  unfold rt_cs
  rw [List.map_map]
  congr 1
  exact List.map_congr_left fun v _ => rt_cv_cat v
/-- a value of one word is stored -/
theorem rt_lv_set {b0 : Nat} {sA : Nat → Nat} {ls : List Value} {n k : Nat} {u v : Value} (hk : ls[k]? = some u) (hu : rt_ns u = true) (hl : rt_lok n ls) (hv : rt_o1 v = true) :
    (∀ q ∈ rt_lv b0 sA (ls.set k v), q ∈ (k, rt_cv b0 sA v) :: (rt_lv b0 sA ls).filter (fun q => !(q.1 == k) && !(q.1 + 1 == k && q.2.category == 2))) ∧ rt_lok n (ls.set k v) := by
  have hkl : k < ls.length := (List.getElem?_eq_some_iff.mp hk).1
  refine ⟨fun q hq => ?_, by rw [List.length_set]; exact hl.1, fun j x hj => ?_⟩
  · obtain ⟨w, h1, h2, h3⟩ := rt_lv_mem.mp hq
    by_cases hqk : q.1 = k
    · rw [hqk, List.getElem?_set_self hkl] at h1
      cases h1
      obtain ⟨i, z⟩ := q
      dsimp only at hqk h3
      subst hqk; subst h3
      exact List.mem_cons_self
    · rw [List.getElem?_set_ne (Ne.symm hqk)] at h1
      refine List.mem_cons_of_mem _ (List.mem_filter.mpr ⟨rt_lv_mem.mpr ⟨w, h1, h2, h3⟩, ?_⟩)
      simp only [Bool.and_eq_true, Bool.not_eq_true', beq_eq_false_iff_ne, ne_eq, Bool.and_eq_false_iff]
      refine ⟨hqk, ?_⟩
      by_cases hq1 : q.1 + 1 = k
      · right
        intro hc
        rw [h3, rt_cv_cat] at hc
        cases w with
        | long x =>
          have := hl.2 _ _ h1
          rw [hq1, hk] at this
          cases this
          cases hu
        | float _ => cases h2
        | double _ => cases h2
        | null => cases h2
        | _ => exact absurd hc (by simp [Value.category])
      · exact Or.inl hq1
  · by_cases hjk : j = k
    · rw [hjk, List.getElem?_set_self hkl] at hj
      cases hj
      cases hv
    · rw [List.getElem?_set_ne (Ne.symm hjk)] at hj
      have h2 := hl.2 j x hj
      by_cases hj1 : j + 1 = k
      · rw [hj1, hk] at h2
        cases h2
        cases hu
      · rw [List.getElem?_set_ne (Ne.symm hj1)]
        exact h2

/-! THE PARSE, pure -/
/-- ((wanted, form, down), ((NPs, onwards), kinds, looks, nouns, relations), rows) -/
abbrev PsT : Type := (Nat × Nat × Bool) × ((Nat × Nat) × (Nat → Nat) × (Nat → Nat → Bool) × (Nat → Option Nat) × (Nat → Nat)) × List (Nat → Nat)
def syA {α : Type} (f : Nat → α) (j : Nat) (v : α) : Nat → α := fun i => if i = j then v else f i
theorem syA_s {α : Type} {f : Nat → α} {j : Nat} {v : α} : syA f j v j = v := if_pos rfl
theorem syA_n {α : Type} {f : Nat → α} {i j : Nat} {v : α} (h : i ≠ j) : syA f j v i = f i := if_neg h
/-- one NP more -/
def sP (kd md2 : Nat) : PsT → PsT
  | ((_, fm, dn), ((P, O), K, Lk, N, Rl), W) => ((md2, fm, dn), ((P + 1, O), syA K P kd, syA Lk P (fun _ => false), syA N P none, Rl), W)
/-- within an N -/
def sN (c : Nat) : PsT → Option PsT
  | ((_, fm, dn), ((P, O), K, Lk, N, Rl), W) => if 5 ≤ c ∧ c ≤ 10 then some ((5, fm, dn), ((P, O), K, syA Lk (P - 1) (fun j => Lk (P - 1) j || decide (j + 5 = c)), N, Rl), W) else if c < 5 ∨ 29 ≤ c then some ((6, fm, dn), ((P, O), K, Lk, syA N (P - 1) (some c), Rl), W) else none
def kdo (c : Nat) : Nat := if c = 21 then 2 else if c = 22 then 3 else c - 23
/-- behind an NP -/
def sM (c : Nat) : PsT → Option PsT
  | ((_, fm, dn), ((P, O), K, Lk, N, Rl), W) =>
    if c = 28 then (if fm = 0 ∧ 0 < (syF false O W).length then some ((7, fm, true), ((P, O), K, Lk, N, Rl), syF false O W) else none)
    else if 25 ≤ c ∧ c ≤ 27 then (if 0 < (syW K (syL fm (c - 25)) O W).length then some ((3, fm, dn), ((P, O + 1), K, Lk, N, syA Rl O (c - 25)), syW K (syL fm (c - 25)) O W) else none)
    else none
def sStep (c : Nat) (s : PsT) : Option PsT :=
  if s.1.1 = 1 then (if c = 19 then some (sP 4 4 s) else none)
  else if s.1.1 = 2 then (if c = 17 then some (sP 4 5 s) else none)
  else if s.1.1 = 3 then (if 21 ≤ c ∧ c ≤ 24 then some (sP (kdo c) (if c ≤ 22 then 5 else 6) s) else none)
  else if s.1.1 = 4 then (if c = 20 then some ((5, 8, s.1.2.2), s.2) else sN c s)
  else if s.1.1 = 5 then sN c s
  else if s.1.1 = 6 then sM c s
  else none
def sInit (md fm : Nat) : PsT := ((md, fm, false), ((0, 0), fun _ => 0, fun _ _ => false, fun _ => none, fun _ => 0), [fun _ => 0])
def sFirst (c : Nat) : Option PsT :=
  if c = 11 ∨ c = 12 ∨ c = 14 then some (sInit 3 (c - 11)) else if c = 13 then some (sInit 7 2) else if c = 15 ∨ c = 16 then some (sP 4 5 (sInit 5 (c - 11))) else if c = 18 then some (sInit 1 7) else none
/-- at the end -/
def sEnd : PsT → Option PsT
  | ((md, fm, dn), ph, W) => if md = 6 ∧ (fm = 0 ∨ fm = 3) then (if 0 < (syF true ph.1.2 W).length then some ((md, fm, dn), ph, syF true ph.1.2 W) else none) else if md = 6 ∨ md = 7 then some ((md, fm, dn), ph, W) else none
/-- what always holds -/
def SW (nw : Nat) : PsT → Prop
  | ((md, fm, dn), ((P, O), K, _, N, Rl), W) =>
    (1 ≤ md ∧ md ≤ 7 ∧ fm < 9 ∧ O ≤ 6) ∧
    ((md = 1 ∨ md = 2 → P = 0 ∧ O = 0) ∧ (md = 3 → P = O) ∧ (md = 4 ∨ md = 5 ∨ md = 6 → P = O + 1) ∧ (md = 7 → (fm = 2 ∧ P = 0 ∧ O = 0) ∨ (fm = 0 ∧ dn = true ∧ P = O + 1))) ∧
    ((md ≠ 7 → dn = false) ∧ (fm = 2 → md = 7) ∧ (md = 4 → fm = 7) ∧ (md = 1 → fm = 7) ∧ (md = 2 → fm = 6)) ∧
    ((∀ k, k < P → K k < 5) ∧ (md = 4 ∨ md = 5 → 2 ≤ K (P - 1)) ∧ (∀ k, k < P → (k + 1 < P ∨ (md ≠ 4 ∧ md ≠ 5)) → (K k < 2 → N k = none) ∧ (2 ≤ K k → ∃ c, N k = some c ∧ (c < 5 ∨ (29 ≤ c ∧ c < 29 + nw)))) ∧ (∀ i, i < O → Rl i < 3) ∧ (fm ≤ 1 ∨ fm = 3 → 0 < P → K 0 < 4)) ∧
    0 < W.length ∧ (∀ d, d ∈ W → syV K O d) ∧ (W.map (syP (6 - O) O)).sum ≤ 264 ∧
    (¬ (fm = 0 ∨ fm = 3) ∨ dn = true → ∀ d, d ∈ W → ∀ i, i < O → d i ≠ 0) ∧ (fm = 0 → ∀ d, d ∈ W → ∀ i, i < O → d i = 0 → Rl i < 2)
section P65
variable {O P k i c nw md fm : Nat} {K Rl d : Nat → Nat} {Lk : Nat → Nat → Bool} {N : Nat → Option Nat} {W : List (Nat → Nat)} {dn has pl : Bool} {s s2 : PsT}
theorem syV_congr {K2 : Nat → Nat} (h : syV K O d) (hk : ∀ k, k < O → K2 k = K k) : syV K2 O d := by
  intro i hi
  obtain ⟨h1, h2⟩ := h i hi
  refine ⟨h1, fun k hk2 => ?_⟩
  obtain ⟨h3, h4⟩ := h2 k hk2
  rw [hk k (by omega)]
  exact ⟨h3, h4⟩
theorem SW_len (h : (W.map (syP (6 - O) O)).sum ≤ 264) : W.length ≤ 264 := Nat.le_trans sum_len h
theorem syW_mem (h : d ∈ syW K pl O W) (hV : ∀ d, d ∈ W → syV K O d) : ∃ d0, d0 ∈ W ∧ syV K (O + 1) d ∧ (d O = 0 → pl = true) ∧ ∀ i, i < O → d i = d0 i := by
  unfold syW at h
  rw [List.mem_flatMap] at h
  obtain ⟨d0, h1, h2⟩ := h
  exact ⟨d0, h1, syE_V (hV d0 h1) h2⟩
theorem syF_mem (h : d ∈ syF has O W) : d ∈ W ∧ (!syO d O 0) = has := by
  unfold syF at h
  rw [List.mem_filter] at h
  exact ⟨h.1, eq_of_beq h.2⟩
theorem SW_init (h1 : 1 ≤ md ∧ md ≤ 7) (h2 : fm < 9) (h3 : md = 1 → fm = 7) (h4 : md = 2 → fm = 6) (h5 : md = 7 ↔ fm = 2) (h6 : md ≠ 4 ∧ md ≠ 5 ∧ md ≠ 6) : SW nw (sInit md fm) := by
  refine ⟨⟨h1.1, h1.2, h2, by omega⟩, ⟨fun _ => ⟨rfl, rfl⟩, fun _ => rfl, fun h => by omega, fun h => Or.inl ⟨h5.mp h, rfl, rfl⟩⟩, ⟨fun _ => rfl, h5.mpr, fun h => by omega, h3, h4⟩, ⟨fun k hk => by omega, fun h => by omega, fun k hk => by omega, fun i hi => by omega, fun _ h => by omega⟩, by simp, fun d hd i hi => by omega, ?_, fun _ d _ i hi => by omega, fun _ d _ i hi => by omega⟩
  show (([fun _ => 0] : List (Nat → Nat)).map (syP 6 0)).sum ≤ 264
  rw [List.map_cons, List.sum_cons, syP_6]
  simp
theorem SW_P {kd md2 : Nat} (h : SW nw ((md, fm, dn), ((P, O), K, Lk, N, Rl), W)) (hPO : P = O) (hmd : md ≠ 7) (hfm : fm ≠ 2) (h1 : md2 = 4 ∨ md2 = 5 ∨ md2 = 6) (h4 : md2 = 4 → fm = 7) (hk : kd < 5) (h2 : md2 = 6 ↔ kd < 2) (h3 : kd = 4 → ¬ (fm ≤ 1 ∨ fm = 3)) : SW nw (sP kd md2 ((md, fm, dn), ((P, O), K, Lk, N, Rl), W)) := by
  obtain ⟨⟨a1, a2, a3, a4⟩, ⟨b1, b2, b3, b4⟩, ⟨c1, c2, c3, c4, c5⟩, ⟨d1, d2, d3, d4, d5⟩, e1, e2, e3, e4, e5⟩ := h
  have hmd3 : md = 1 ∨ md = 2 ∨ md = 3 := by
    by_cases g : md = 4 ∨ md = 5 ∨ md = 6
    · have := b3 g; clear b1 b2 b3 b4 c1 c2 c3 c4 c5 d2; omega
    · clear b1 b2 b3 b4 c1 c2 c3 c4 c5 d2; omega
  have hdn := c1 hmd
  clear b1 b2 b3 b4 c1 c2 c3 c4 c5 d2
  subst hPO
  refine ⟨⟨by omega, by omega, a3, a4⟩, ⟨fun h => by omega, fun h => by omega, fun _ => rfl, fun h => by omega⟩, ⟨fun _ => hdn, fun h => absurd h hfm, h4, fun h => by omega, fun h => by omega⟩, ⟨fun k hk2 => ?_, fun h => ?_, fun k hk2 hk3 => ?_, d4, fun g1 _ => ?_⟩, e1, fun d hd => syV_congr (e2 d hd) (fun k hk2 => syA_n (by omega)), e3, e4, e5⟩
  · by_cases g : k = P
    · rw [g, syA_s]; exact hk
    · rw [syA_n g]; exact d1 k (by omega)
  · rw [Nat.add_sub_cancel, syA_s]
    by_cases g : kd < 2
    · have := h2.mpr g; omega
    · omega
  · by_cases g : k = P
    · rw [g, syA_s, syA_s]
      refine ⟨fun _ => rfl, fun g2 => ?_⟩
      exfalso
      by_cases g3 : kd < 2
      · omega
      · have : md2 ≠ 6 := fun g4 => g3 (h2.mp g4)
        omega
    · rw [syA_n g, syA_n g]
      exact d3 k (by omega) (Or.inr ⟨by omega, by omega⟩)
  · by_cases g : P = 0
    · rw [g, syA_s]
      by_cases g2 : kd = 4
      · exact absurd g1 (h3 g2)
      · omega
    · rw [syA_n (by omega)]
      exact d5 g1 (by omega)
theorem SW_N (h : SW nw ((md, fm, dn), ((P, O), K, Lk, N, Rl), W)) (hmd : md = 4 ∨ md = 5) (hc : c < 29 + nw) (hs : sN c ((md, fm, dn), ((P, O), K, Lk, N, Rl), W) = some s2) : SW nw s2 := by
  obtain ⟨⟨a1, a2, a3, a4⟩, ⟨b1, b2, b3, b4⟩, ⟨c1, c2, c3, c4, c5⟩, ⟨d1, d2, d3, d4, d5⟩, e1, e2, e3, e4, e5⟩ := h
  have hPO := b3 (by rcases hmd with g | g; exact Or.inl g; exact Or.inr (Or.inl g))
  have hm7 : md ≠ 7 := by clear b1 b2 b3 b4 c1 c2 c3 c4 c5 d2; omega
  have hf2 : fm ≠ 2 := fun g => hm7 (c2 g)
  have hdn := c1 hm7
  have hK := d2 hmd
  clear b1 b2 b3 b4 c1 c2 c3 c4 c5 d2
  unfold sN at hs
  dsimp only at hs
  by_cases g1 : 5 ≤ c ∧ c ≤ 10
  · rw [if_pos g1, Option.some.injEq] at hs
    subst hs
    refine ⟨⟨by omega, by omega, a3, a4⟩, ⟨fun h => by omega, fun h => by omega, fun _ => hPO, fun h => by omega⟩, ⟨fun _ => hdn, fun h => absurd h hf2, fun h => by omega, fun h => by omega, fun h => by omega⟩, ⟨d1, fun _ => hK, fun k hk1 hk2 => d3 k hk1 (Or.inl (by omega)), d4, d5⟩, e1, e2, e3, e4, e5⟩
  · rw [if_neg g1] at hs
    by_cases g2 : c < 5 ∨ 29 ≤ c
    · rw [if_pos g2, Option.some.injEq] at hs
      subst hs
      refine ⟨⟨by omega, by omega, a3, a4⟩, ⟨fun h => by omega, fun h => by omega, fun _ => hPO, fun h => by omega⟩, ⟨fun _ => hdn, fun h => absurd h hf2, fun h => by omega, fun h => by omega, fun h => by omega⟩, ⟨d1, fun h => by omega, fun k hk1 hk2 => ?_, d4, d5⟩, e1, e2, e3, e4, e5⟩
      by_cases g3 : k = P - 1
      · subst g3
        rw [syA_s]
        exact ⟨fun g => by omega, fun _ => ⟨c, rfl, by omega⟩⟩
      · rw [syA_n g3]
        exact d3 k hk1 (Or.inl (by omega))
    · rw [if_neg g2] at hs; cases hs
theorem SW_M (h : SW nw ((md, fm, dn), ((P, O), K, Lk, N, Rl), W)) (hmd : md = 6) (hO : 25 ≤ c → c ≤ 27 → O ≤ 5) (hs : sM c ((md, fm, dn), ((P, O), K, Lk, N, Rl), W) = some s2) : SW nw s2 := by
  obtain ⟨⟨a1, a2, a3, a4⟩, ⟨b1, b2, b3, b4⟩, ⟨c1, c2, c3, c4, c5⟩, ⟨d1, d2, d3, d4, d5⟩, e1, e2, e3, e4, e5⟩ := h
  have hPO := b3 (Or.inr (Or.inr hmd))
  have hm7 : md ≠ 7 := by clear b1 b2 b3 b4 c1 c2 c3 c4 c5 d2; omega
  have hf2 : fm ≠ 2 := fun g => hm7 (c2 g)
  have hdn := c1 hm7
  clear b1 b2 b3 b4 c1 c2 c3 c4 c5 d2
  unfold sM at hs
  dsimp only at hs
  by_cases g1 : c = 28
  · rw [if_pos g1] at hs
    by_cases g2 : fm = 0 ∧ 0 < (syF false O W).length
    · rw [if_pos g2, Option.some.injEq] at hs
      subst hs
      refine ⟨⟨by omega, by omega, a3, a4⟩, ⟨fun h => by omega, fun h => by omega, fun h => by omega, fun _ => Or.inr ⟨g2.1, rfl, hPO⟩⟩, ⟨fun h => absurd rfl h, fun h => absurd h hf2, fun h => by omega, fun h => by omega, fun h => by omega⟩, ⟨d1, fun h => by omega, fun k hk1 hk2 => d3 k hk1 (Or.inr ⟨by omega, by omega⟩), d4, d5⟩, g2.2, fun d hd => e2 d (syF_mem hd).1, Nat.le_trans sum_filter e3, fun _ d hd i hi => ?_, fun g d hd => e5 g d (syF_mem hd).1⟩
      have := (syF_mem hd).2
      exact syO_0.mp (by simpa using this) i hi
    · rw [if_neg g2] at hs; cases hs
  · rw [if_neg g1] at hs
    by_cases g2 : 25 ≤ c ∧ c ≤ 27
    · rw [if_pos g2] at hs
      have hO5 := hO g2.1 g2.2
      by_cases g3 : 0 < (syW K (syL fm (c - 25)) O W).length
      · rw [if_pos g3, Option.some.injEq] at hs
        subst hs
        refine ⟨⟨by omega, by omega, a3, by omega⟩, ⟨fun h => by omega, fun _ => hPO, fun h => by omega, fun h => by omega⟩, ⟨fun _ => hdn, fun h => absurd h hf2, fun h => by omega, fun h => by omega, fun h => by omega⟩, ⟨d1, fun h => by omega, fun k hk1 hk2 => d3 k hk1 (Or.inr ⟨by omega, by omega⟩), fun i hi => ?_, d5⟩, g3, fun d hd => ?_, ?_, fun g d hd i hi => ?_, fun g d hd i hi h0 => ?_⟩
        · by_cases g4 : i = O
          · rw [g4, syA_s]; omega
          · rw [syA_n g4]; exact d4 i (by omega)
        · obtain ⟨d0, -, h2, -⟩ := syW_mem hd e2
          exact h2
        · have := syW_sum (K := K) (pl := syL fm (c - 25)) (W := W) (m := 6 - (O + 1)) hO5
          rw [show 6 - (O + 1) + 1 = 6 - O by omega] at this
          omega
        · obtain ⟨d0, h1, h2, h3, h4⟩ := syW_mem hd e2
          by_cases g4 : i = O
          · subst g4
            intro h0
            have h5 := h3 h0
            rcases g with g | g
            · unfold syL at h5
              rw [decide_eq_false (fun h => g (Or.inl h)), decide_eq_false (fun h => g (Or.inr h))] at h5
              cases h5
            · rw [hdn] at g; cases g
          · rw [h4 i (by omega)]
            exact e4 g d0 h1 i (by omega)
        · obtain ⟨d0, h1, h2, h3, h4⟩ := syW_mem hd e2
          by_cases g4 : i = O
          · subst g4
            have h5 := h3 h0
            unfold syL at h5
            rw [decide_eq_true g, decide_eq_false (show ¬ fm = 3 by omega)] at h5
            have h6 : ¬ c - 25 = 2 := by
              intro h7
              rw [decide_eq_true h7] at h5
              cases h5
            rw [syA_s]
            omega
          · rw [syA_n g4]
            rw [h4 i (by omega)] at h0
            exact e5 g d0 h1 i (by omega) h0
      · rw [if_neg g3] at hs; cases hs
    · rw [if_neg g2] at hs; cases hs
theorem kdo_lt (h1 : 21 ≤ c) (h2 : c ≤ 24) : kdo c < 4 ∧ ((c ≤ 22) ↔ 2 ≤ kdo c) := by
  unfold kdo
  by_cases g1 : c = 21
  · rw [if_pos g1]; omega
  · rw [if_neg g1]
    by_cases g2 : c = 22
    · rw [if_pos g2]; omega
    · rw [if_neg g2]; omega
theorem SW_1 (h : SW nw ((md, fm, dn), ((P, O), K, Lk, N, Rl), W)) (g : md = 1) : fm = 7 ∧ P = 0 ∧ O = 0 := ⟨h.2.2.1.2.2.2.1 g, h.2.1.1 (Or.inl g)⟩
theorem SW_2 (h : SW nw ((md, fm, dn), ((P, O), K, Lk, N, Rl), W)) (g : md = 2) : fm = 6 ∧ P = 0 ∧ O = 0 := ⟨h.2.2.1.2.2.2.2 g, h.2.1.1 (Or.inr g)⟩
theorem SW_3 (h : SW nw ((md, fm, dn), ((P, O), K, Lk, N, Rl), W)) (g : md = 3) : fm ≠ 2 ∧ P = O := ⟨fun g2 => by have := h.2.2.1.2.1 g2; omega, h.2.1.2.1 g⟩
theorem SW_4 (h : SW nw ((md, fm, dn), ((P, O), K, Lk, N, Rl), W)) (g : md = 4) : fm = 7 ∧ P = O + 1 ∧ dn = false ∧ 2 ≤ K (P - 1) := ⟨h.2.2.1.2.2.1 g, h.2.1.2.2.1 (Or.inl g), h.2.2.1.1 (by omega), h.2.2.2.1.2.1 (Or.inl g)⟩
theorem SW_5 (h : SW nw ((md, fm, dn), ((P, O), K, Lk, N, Rl), W)) (g : md = 5) : fm ≠ 2 ∧ P = O + 1 ∧ dn = false ∧ 2 ≤ K (P - 1) := ⟨fun g2 => by have := h.2.2.1.2.1 g2; omega, h.2.1.2.2.1 (Or.inr (Or.inl g)), h.2.2.1.1 (by omega), h.2.2.2.1.2.1 (Or.inr g)⟩
theorem SW_6 (h : SW nw ((md, fm, dn), ((P, O), K, Lk, N, Rl), W)) (g : md = 6) : fm ≠ 2 ∧ P = O + 1 ∧ dn = false := ⟨fun g2 => by have := h.2.2.1.2.1 g2; omega, h.2.1.2.2.1 (Or.inr (Or.inr g)), h.2.2.1.1 (by omega)⟩
theorem SW_a (h : SW nw ((md, fm, dn), ((P, O), K, Lk, N, Rl), W)) : (1 ≤ md ∧ md ≤ 7 ∧ fm < 9 ∧ O ≤ 6) ∧ P ≤ 7 ∧ W.length ≤ 264 := by
  obtain ⟨⟨a1, a2, a3, a4⟩, ⟨b1, b2, b3, b4⟩, -, -, -, -, e3, -⟩ := h
  refine ⟨⟨a1, a2, a3, a4⟩, ?_, SW_len e3⟩
  have hm : (md = 1 ∨ md = 2) ∨ md = 3 ∨ (md = 4 ∨ md = 5 ∨ md = 6) ∨ md = 7 := by clear b1 b2 b3 b4; omega
  rcases hm with g | g | g | g
  · have := b1 g; clear b1 b2 b3 b4; omega
  · have := b2 g; clear b1 b2 b3 b4; omega
  · have := b3 g; clear b1 b2 b3 b4; omega
  · have := b4 g; clear b1 b2 b3 b4; omega
theorem SW_step (h : SW nw s) (hc : c < 29 + nw) (hO : 25 ≤ c → c ≤ 27 → s.2.1.1.2 ≤ 5) (hs : sStep c s = some s2) : SW nw s2 := by
  obtain ⟨⟨md, fm, dn⟩, ⟨⟨P, O⟩, K, Lk, N, Rl⟩, W⟩ := s
  unfold sStep at hs
  dsimp only at hs hO
  by_cases g1 : md = 1
  · rw [if_pos g1] at hs
    by_cases g : c = 19
    · rw [if_pos g, Option.some.injEq] at hs
      subst hs
      obtain ⟨f1, f2, f3⟩ := SW_1 h g1
      exact SW_P h (by omega) (by omega) (by omega) (Or.inl rfl) (fun _ => f1) (by omega) (by omega) (by omega)
    · rw [if_neg g] at hs; cases hs
  rw [if_neg g1] at hs
  by_cases g2 : md = 2
  · rw [if_pos g2] at hs
    by_cases g : c = 17
    · rw [if_pos g, Option.some.injEq] at hs
      subst hs
      obtain ⟨f1, f2, f3⟩ := SW_2 h g2
      exact SW_P h (by omega) (by omega) (by omega) (Or.inr (Or.inl rfl)) (by omega) (by omega) (by omega) (by omega)
    · rw [if_neg g] at hs; cases hs
  rw [if_neg g2] at hs
  by_cases g3 : md = 3
  · rw [if_pos g3] at hs
    by_cases g : 21 ≤ c ∧ c ≤ 24
    · rw [if_pos g, Option.some.injEq] at hs
      subst hs
      obtain ⟨k1, k2⟩ := kdo_lt g.1 g.2
      obtain ⟨hf2, hPO⟩ := SW_3 h g3
      by_cases g5 : c ≤ 22
      · rw [if_pos g5]
        have := k2.mp g5
        exact SW_P h hPO (by omega) hf2 (Or.inr (Or.inl rfl)) (by omega) (by omega) (by omega) (by omega)
      · rw [if_neg g5]
        have : kdo c < 2 := by
          by_cases g6 : 2 ≤ kdo c
          · exact absurd (k2.mpr g6) g5
          · omega
        exact SW_P h hPO (by omega) hf2 (Or.inr (Or.inr rfl)) (by omega) (by omega) (by omega) (by omega)
    · rw [if_neg g] at hs; cases hs
  rw [if_neg g3] at hs
  by_cases g4 : md = 4
  · rw [if_pos g4] at hs
    by_cases g : c = 20
    · rw [if_pos g, Option.some.injEq] at hs
      subst hs
      obtain ⟨f7, fP, fd, fK⟩ := SW_4 h g4
      obtain ⟨⟨a1, a2, a3, a4⟩, -, -, ⟨d1, -, d3, d4, -⟩, e1, e2, e3, e4, -⟩ := h
      exact ⟨⟨by omega, by omega, by omega, a4⟩, ⟨fun h => by omega, fun h => by omega, fun _ => fP, fun h => by omega⟩, ⟨fun _ => fd, fun h => by omega, fun h => by omega, fun h => by omega, fun h => by omega⟩, ⟨d1, fun _ => fK, fun k hk1 hk2 => d3 k hk1 (Or.inl (by omega)), d4, fun h => by omega⟩, e1, e2, e3, fun _ => e4 (Or.inl (by omega)), fun h => by omega⟩
    · rw [if_neg g] at hs
      exact SW_N h (Or.inl g4) hc hs
  rw [if_neg g4] at hs
  by_cases g5 : md = 5
  · rw [if_pos g5] at hs
    exact SW_N h (Or.inr g5) hc hs
  rw [if_neg g5] at hs
  by_cases g6 : md = 6
  · rw [if_pos g6] at hs
    exact SW_M h g6 hO hs
  · rw [if_neg g6] at hs; cases hs
theorem SW_first (hs : sFirst c = some s) : SW nw s := by
  unfold sFirst at hs
  by_cases g1 : c = 11 ∨ c = 12 ∨ c = 14
  · rw [if_pos g1, Option.some.injEq] at hs
    subst hs
    exact SW_init (by omega) (by omega) (by omega) (by omega) (by omega) (by omega)
  rw [if_neg g1] at hs
  by_cases g2 : c = 13
  · rw [if_pos g2, Option.some.injEq] at hs
    subst hs
    exact SW_init (by omega) (by omega) (by omega) (by omega) (by omega) (by omega)
  rw [if_neg g2] at hs
  by_cases g3 : c = 15 ∨ c = 16
  · rw [if_pos g3, Option.some.injEq] at hs
    subst hs
    have h0 : SW nw (sInit 3 (c - 11)) := SW_init (by omega) (by omega) (by omega) (by omega) (by omega) (by omega)
    exact SW_P (kd := 4) (md2 := 5) (md := 3) h0 rfl (by omega) (by omega) (by omega) (by omega) (by omega) (by omega) (by omega)
  rw [if_neg g3] at hs
  by_cases g4 : c = 18
  · rw [if_pos g4, Option.some.injEq] at hs
    subst hs
    exact SW_init (by omega) (by omega) (by omega) (by omega) (by omega) (by omega)
  · rw [if_neg g4] at hs; cases hs
theorem sN_fm (hs : sN c s = some s2) : s2.1.2.1 = s.1.2.1 := by
  obtain ⟨⟨md, fm, dn⟩, ⟨⟨P, O⟩, K, Lk, N, Rl⟩, W⟩ := s
  unfold sN at hs
  dsimp only at hs
  by_cases g1 : 5 ≤ c ∧ c ≤ 10
  · rw [if_pos g1, Option.some.injEq] at hs; subst hs; rfl
  · rw [if_neg g1] at hs
    by_cases g2 : c < 5 ∨ 29 ≤ c
    · rw [if_pos g2, Option.some.injEq] at hs; subst hs; rfl
    · rw [if_neg g2] at hs; cases hs
theorem sM_fm (hs : sM c s = some s2) : s2.1.2.1 = s.1.2.1 := by
  obtain ⟨⟨md, fm, dn⟩, ⟨⟨P, O⟩, K, Lk, N, Rl⟩, W⟩ := s
  unfold sM at hs
  dsimp only at hs
  by_cases g1 : c = 28
  · rw [if_pos g1] at hs
    by_cases g2 : fm = 0 ∧ 0 < (syF false O W).length
    · rw [if_pos g2, Option.some.injEq] at hs; subst hs; rfl
    · rw [if_neg g2] at hs; cases hs
  · rw [if_neg g1] at hs
    by_cases g2 : 25 ≤ c ∧ c ≤ 27
    · rw [if_pos g2] at hs
      by_cases g3 : 0 < (syW K (syL fm (c - 25)) O W).length
      · rw [if_pos g3, Option.some.injEq] at hs; subst hs; rfl
      · rw [if_neg g3] at hs; cases hs
    · rw [if_neg g2] at hs; cases hs
theorem sP_fm {kd md2 : Nat} : (sP kd md2 s).1.2.1 = s.1.2.1 := rfl
theorem sStep_fm (hs : sStep c s = some s2) : s2.1.2.1 = 6 → s.1.2.1 = 6 := by
  unfold sStep at hs
  intro h
  by_cases g1 : s.1.1 = 1
  · rw [if_pos g1] at hs
    by_cases g : c = 19
    · rw [if_pos g, Option.some.injEq] at hs; subst hs; exact h
    · rw [if_neg g] at hs; cases hs
  rw [if_neg g1] at hs
  by_cases g2 : s.1.1 = 2
  · rw [if_pos g2] at hs
    by_cases g : c = 17
    · rw [if_pos g, Option.some.injEq] at hs; subst hs; exact h
    · rw [if_neg g] at hs; cases hs
  rw [if_neg g2] at hs
  by_cases g3 : s.1.1 = 3
  · rw [if_pos g3] at hs
    by_cases g : 21 ≤ c ∧ c ≤ 24
    · rw [if_pos g, Option.some.injEq] at hs; subst hs; exact h
    · rw [if_neg g] at hs; cases hs
  rw [if_neg g3] at hs
  by_cases g4 : s.1.1 = 4
  · rw [if_pos g4] at hs
    by_cases g : c = 20
    · rw [if_pos g, Option.some.injEq] at hs; subst hs; exact absurd (show (8 : Nat) = 6 from h) (by decide)
    · rw [if_neg g] at hs; rw [← sN_fm hs]; exact h
  rw [if_neg g4] at hs
  by_cases g5 : s.1.1 = 5
  · rw [if_pos g5] at hs
    rw [← sN_fm hs]; exact h
  rw [if_neg g5] at hs
  by_cases g6 : s.1.1 = 6
  · rw [if_pos g6] at hs
    rw [← sM_fm hs]; exact h
  · rw [if_neg g6] at hs; cases hs
end P65

def st_tm (_ : Nat) : Term := .string RX8 69
def st_fl0 : List Cond := flatC (Jvm.Cond.and given_1 narrow_1)
set_option maxRecDepth 100000 in
theorem st_el : (List.range 132).all (fun j => st_fl0.contains (Cond.eq (.elem (.field (.string RX8 69) "java/lang/String" "value" "[B") (.int (Int32.ofNat j))) (.int (st_by.getD j 0)))) = true := by decide +kernel
set_option maxRecDepth 100000 in
theorem st_ot : (st_fl0.contains (Cond.exactly (.string RX8 69) "java/lang/String") && st_fl0.contains (Cond.eq (.field (.string RX8 69) "java/lang/String" "coder" "B") (.int 0)) && st_fl0.contains (Cond.arrayOf (.field (.string RX8 69) "java/lang/String" "value" "[B") .byte) && st_fl0.contains (Cond.eq (.length (.field (.string RX8 69) "java/lang/String" "value" "[B")) (.int (Int32.ofNat 132))) && st_fl0.contains (Cond.eq (.static "java/lang/String" "COMPACT_STRINGS" "Z") (.int 1)) && st_fl0.contains (Cond.isRef (.static "jdk/internal/util/Preconditions" "SIOOBE_FORMATTER" "Ljava/util/function/BiFunction;"))) = true := by decide +kernel
set_option maxRecDepth 100000 in
theorem st_tb : (lw_tbl.contains (.laysStatic "java/lang/String" "COMPACT_STRINGS" "Z") && lw_tbl.contains (.laysStatic "jdk/internal/util/Preconditions" "SIOOBE_FORMATTER" "Ljava/util/function/BiFunction;") && lw_tbl.contains (.stringRef RX8 69 st_tx) && lw_tbl.contains (.initialized "java/lang/String") && lw_tbl.contains (.initialized "jdk/internal/util/Preconditions")) = true := by decide +kernel
theorem lw_Zin {p : Program} {s : State} {mid : MethodId} {meth : Method} {c : Code} {b Ls : Nat} {xs : Nat → Int32} (C0 : lw_At p s mid meth c b Ls xs) : ∃ sA sV : Nat → Nat, lw_Zs s.heap.size sA sV s := by
  obtain ⟨hx, hb, hr, hml, hown, hts, hX, hbl, hlocks, hgv⟩ := C0
  have hs : ∀ w, st_fl0.contains w = true → w.before #[Value.ref b] s = true := fun w hw => flat_of_before _ hgv w (List.contains_iff_mem.mp hw)
  have ht : ∀ w, lw_tbl.contains w = true → w.before #[Value.ref b] s = true := fun w hw => hts w (List.contains_iff_mem.mp hw)
  have hot := st_ot
  simp only [Bool.and_eq_true] at hot
  obtain ⟨⟨⟨⟨⟨o1, o2⟩, o3⟩, o4⟩, o5⟩, o6⟩ := hot
  have htb := st_tb
  simp only [Bool.and_eq_true] at htb
  obtain ⟨⟨⟨⟨t1, t2⟩, t3⟩, t4⟩, t5⟩ := htb
  have hA : ∀ a : Nat, a < s.heap.size → ¬ (fun q => s.heap.size ≤ q) a := fun a ha => Nat.not_le.mpr ha
  obtain ⟨sA, sV, hS, hE⟩ := vk_Sof (N := 1) (tm := st_tm) (len := [132]) (byt := [st_by]) (args := #[Value.ref b]) (s := s) (A := fun q => s.heap.size ≤ q)
    (fun i hi => by rcases (show i = 0 by omega) with rfl; decide)
    (fun i hi => hs _ o1) (fun i hi => hs _ o2) (fun i hi => hs _ o3)
    (fun i hi => by rcases (show i = 0 by omega) with rfl; exact hs _ o4)
    (fun i hi j hj => by
      rcases (show i = 0 by omega) with rfl
      exact hs _ (List.all_eq_true.mp st_el j (List.mem_range.mpr hj)))
    (fun i j hi hj hij => absurd (show i = j by omega) hij) hA
  refine ⟨sA, sV, vk_R.of (ht _ t3) (hE 0 (by decide)), hS, va_Zof (ht _ t1) (ht _ t4) (va_eqt (hs _ o5)) hA, va_Zqof (ht _ t2) (ht _ t5) (hs _ o6) hA⟩
/-- the law from its entry: what is left is INV, its start and its 24 pairs -/
theorem lw_reduce (INV : rt_H → Prop) (hsz : ∀ h, INV h → 71 ≤ h.1 ∧ h.1 ≤ 111) (hA : lw_All INV) (hI : lw_Init INV) {p : Program} {e : Env} {s : State} {m : MethodId} {below : List Frame} {meth : Method} {c : Code} (l : Launch) {b L : Nat} {xs : Nat → Int32} (hL : L ≤ 3072) (C0 : lw_At p s m meth c b L xs) : W p l e room_1 s m #[Value.ref b] below meth c s.heap [] 0 0 (lw_Z below #[Value.ref b] s) (entryFrame m ([Value.ref b] : List Value).toArray 4) := by
  obtain ⟨sA, sV, hz⟩ := lw_Zin C0
  obtain ⟨D, cs, hK, hN⟩ := lw_world C0
  exact lw_whole l hL ⟨C0, hK, hN, hz⟩ st_Zok hsz hA hI

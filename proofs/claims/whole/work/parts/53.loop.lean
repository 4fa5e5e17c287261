section LWL
variable {p : Program} {l : Launch} {e : Env} {s : State} {mid : MethodId} {below : List Frame} {meth : Method} {c : Code} {b Ls : Nat} {xs : Nat → Int32} {D : va_G} {cs : Nat → ClassId} {sA : Nat → Nat} {Zs : State → Prop} {INV : rt_H → Prop}
/-- all that is asked of class and reference: each of the 24 calls, with any ints, keeps INV and answers alike -/
def lw_All (INV : rt_H → Prop) : Prop :=
  (∀ as : List Value, as.length = 3 → as.all rt_isI = true → lw_pair INV mX9_thing mX10_thing as) ∧
  (∀ as : List Value, as.length = 2 → as.all rt_isI = true → lw_pair INV mX9_act mX10_act as) ∧
  (∀ as : List Value, as.length = 0 → as.all rt_isI = true → lw_pair INV mX9_undo mX10_undo as) ∧
  (∀ as : List Value, as.length = 1 → as.all rt_isI = true → lw_pair INV mX9_where mX10_where as) ∧
  (∀ as : List Value, as.length = 2 → as.all rt_isI = true → lw_pair INV mX9_over mX10_over as) ∧
  (∀ as : List Value, as.length = 2 → as.all rt_isI = true → lw_pair INV mX9_was mX10_was as) ∧
  (∀ as : List Value, as.length = 2 → as.all rt_isI = true → lw_pair INV mX9_event mX10_event as) ∧
  (∀ as : List Value, as.length = 5 → as.all rt_isI = true → lw_pair INV mX9_feed mX10_feed as) ∧
  (∀ as : List Value, as.length = 1 → as.all rt_isI = true → lw_pair INV mX9_say mX10_say as) ∧
  (∀ as : List Value, as.length = 2 → as.all rt_isI = true → lw_pair INV mX9_reading mX10_reading as) ∧
  (∀ as : List Value, as.length = 2 → as.all rt_isI = true → lw_pair INV mX9_means mX10_means as) ∧
  (∀ as : List Value, as.length = 2 → as.all rt_isI = true → lw_pair INV mX9_trouble mX10_trouble as) ∧
  (∀ as : List Value, as.length = 0 → as.all rt_isI = true → lw_pair INV mX9_taken mX10_taken as) ∧
  (∀ as : List Value, as.length = 0 → as.all rt_isI = true → lw_pair INV mX9_answer mX10_answer as) ∧
  (∀ as : List Value, as.length = 1 → as.all rt_isI = true → lw_pair INV mX9_plan mX10_plan as) ∧
  (∀ as : List Value, as.length = 0 → as.all rt_isI = true → lw_pair INV mX9_done mX10_done as) ∧
  (∀ as : List Value, as.length = 1 → as.all rt_isI = true → lw_pair INV mX9_mentioned mX10_mentioned as) ∧
  (∀ as : List Value, as.length = 1 → as.all rt_isI = true → lw_pair INV mX9_owned mX10_owned as) ∧
  (∀ as : List Value, as.length = 1 → as.all rt_isI = true → lw_pair INV mX9_judge mX10_judge as) ∧
  (∀ as : List Value, as.length = 1 → as.all rt_isI = true → lw_pair INV mX9_breaks mX10_breaks as) ∧
  (∀ as : List Value, as.length = 1 → as.all rt_isI = true → lw_pair INV mX9_acts mX10_acts as) ∧
  (∀ as : List Value, as.length = 1 → as.all rt_isI = true → lw_pair INV mX9_noun mX10_noun as) ∧
  (∀ as : List Value, as.length = 1 → as.all rt_isI = true → lw_pair INV mX9_check mX10_check as) ∧
  (∀ as : List Value, as.length = 1 → as.all rt_isI = true → lw_pair INV mX9_count mX10_count as)
theorem lw_32 {P : Nat → Prop} {j : Nat} (hj : j < 32) (h0 : j < 24 → P j) (h1 : 24 ≤ j → P j) : P j := by
  by_cases h : j < 24
  · exact h0 h
  · exact h1 (by omega)
set_option maxHeartbeats 4000000 in
set_option maxRecDepth 20000 in
/-- THE LAW'S LOOP -/
theorem lw_loop (C : lw_C p s mid meth c b Ls xs D cs Zs) (hZ : rt_Zok s.heap.size sA Zs) (hsz : ∀ h, INV h → 71 ≤ h.1 ∧ h.1 ≤ 111) (hA : lw_All INV) (hL : Ls ≤ 3072) :
    ∀ (n i : Nat) (h : rt_H), i ≤ Ls → Ls + 1 ≤ i + n → INV h → ∀ (H : Heap) (locs : List Loc) (ca : Array Slot), va_P D vwCl (rt_wd s.heap.size cs h) H → va_S (fun q => s.heap.size ≤ q) s.heap H locs → lv_has ca 4 [(0, .ref b), (1, .ref (s.heap.size + 0)), (2, .ref (s.heap.size + 33)), (3, .int (nI i))] →
      lw_W p l e s mid b below meth c H locs h (F0 mid 18 ca []) := by
  intro n
  induction n with
  | zero => intro i h h1 h2; omega
  | succ n ih =>
    intro i h hi hin hI H locs ca hP hS hl
    have C' := C
    obtain ⟨⟨hx, hb, hr, hml, hown, hts, hX, hbl, hlocks, hgv⟩, hK, hN, hz⟩ := C'
    have hbA : ¬ (fun q : Nat => s.heap.size ≤ q) b := Nat.not_le.mpr hbl
    have s0 := hsz h hI
    refine lv_iload_n hx hb dL_law_18 rfl (lv_at hl 3 rfl) ?_
    refine lv_aload_n hx hb dL_law_19 rfl (lv_at hl 0 rfl) ?_
    refine va_slen hx hb hX hbl hbA hS dL_law_20 ?_
    refine lv_bipush (v := 6) hx hb dL_law_21 (by decide) ?_
    refine lv_isub hx hb dL_law_23 ?_
    have e6 : (nI Ls - 6).toInt = (Ls : Int) - 6 := pk_sub_toInt (a := Ls) (b := 6) (by omega) (by decide)
    have ei : (nI i).toInt = (i : Int) := nI_toInt (by omega)
    refine lv_icmp_gt (tgt := 792) hx hb dL_law_24 (by decide) (fun _ => ?_) (fun hc => ?_)
    · refine lv_iconst (v := 1) hx hb dL_law_792 (by decide) ?_
      refine va_forget (fun q hq => hS.2.2 q hq) ?_
      refine W.widen (k := 600000) (n := 7302250) (by omega) (Nat.le_trans (rt_sl_le s0.2) rt_sl111) ?_
      exact lw_ret hx hb hr hlocks dL_law_793
    · have hi6 : i + 6 ≤ Ls := by
        have hc : ¬ (nI Ls - 6) < nI i := hc
        rw [Int32.lt_iff_toInt_lt, e6, ei] at hc
        omega
      refine lv_aload_n hx hb dL_law_27 rfl (lv_at hl 0 rfl) ?_
      refine lv_iload_n hx hb dL_law_28 rfl (lv_at hl 3 rfl) ?_
      refine va_sld hx hb hX hbl hbA hS (vp_in_nI (by omega) (by omega)) dL_law_29 ?_
      refine lv_bipush (v := 31) hx hb dL_law_30 (by decide) ?_
      refine lv_iand hx hb dL_law_32 ?_
      obtain ⟨j, hj, ej⟩ := pk_andE (xs (nI i).toNatClampNeg) (m := 31) 5 (by decide)
      rw [ej]
      have tj : (nI j).toInt = (j : Int) := nI_toInt (by omega)
      -- behind every case: the next turn
      have nxt : ∀ (h2 : rt_H) (H1 : Heap) (locs1 : List Loc), INV h2 → va_P D vwCl (rt_wd s.heap.size cs h2) H1 → va_S (fun q => s.heap.size ≤ q) s.heap H1 locs1 → lw_W p l e s mid b below meth c H1 locs1 h2 (F0 mid 786 ca []) := by
        intro h2 H1 locs1 hI2 hP2 hS2
        refine lv_iinc (v := nI (i + 6)) (lv' := [(3, .int (nI (i + 6))), (0, .ref b), (1, .ref (s.heap.size + 0)), (2, .ref (s.heap.size + 33))]) hx hb dL_law_786 hl (k := 3) rfl (nI_add i 6) (by decide) rfl (fun ca2 hl2 => ?_)
        refine lv_goto (tgt := 18) hx hb dL_law_789 (by decide) ?_
        exact ih (i + 6) h2 (by omega) (by omega) hI2 H1 locs1 ca2 hP2 hS2 (lv_sub hl2 [1, 2, 3, 0] rfl)
      obtain ⟨a0, a1, a2, a3, a4, a5, a6, a7, a8, a9, a10, a11, a12, a13, a14, a15, a16, a17, a18, a19, a20, a21, a22, a23⟩ := hA
      refine lw_32 (P := fun j => (nI j).toInt = (j : Int) → W p l e room_1 s mid #[Value.ref b] below meth c H locs h.1 (rt_sl h.1) (lw_Z below #[Value.ref b] s) (F0 mid 33 ca [.int (nI j)])) hj (fun h24 => ?_) (fun h24 => ?_) tj
      · match j, h24 with
        | 0, _ =>
          intro tj
          refine lv_tableIn (tgt := 144) (off := 111) hx hb dL_law_33 (by decide) (by decide) (by decide) (by decide) ?_
          exact lw_case_0 C hZ hsz a0 hi6 hL hI hP hS hl nxt
        | 1, _ =>
          intro tj
          refine lv_tableIn (tgt := 187) (off := 154) hx hb dL_law_33 (by decide) (by decide) (by decide) (by decide) ?_
          exact lw_case_1 C hZ hsz a1 hi6 hL hI hP hS hl nxt
        | 2, _ =>
          intro tj
          refine lv_tableIn (tgt := 220) (off := 187) hx hb dL_law_33 (by decide) (by decide) (by decide) (by decide) ?_
          exact lw_case_2 C hZ hsz a2 hi6 hL hI hP hS hl nxt
        | 3, _ =>
          intro tj
          refine lv_tableIn (tgt := 233) (off := 200) hx hb dL_law_33 (by decide) (by decide) (by decide) (by decide) ?_
          exact lw_case_3 C hZ hsz a3 hi6 hL hI hP hS hl nxt
        | 4, _ =>
          intro tj
          refine lv_tableIn (tgt := 256) (off := 223) hx hb dL_law_33 (by decide) (by decide) (by decide) (by decide) ?_
          exact lw_case_4 C hZ hsz a4 hi6 hL hI hP hS hl nxt
        | 5, _ =>
          intro tj
          refine lv_tableIn (tgt := 289) (off := 256) hx hb dL_law_33 (by decide) (by decide) (by decide) (by decide) ?_
          exact lw_case_5 C hZ hsz a5 hi6 hL hI hP hS hl nxt
        | 6, _ =>
          intro tj
          refine lv_tableIn (tgt := 322) (off := 289) hx hb dL_law_33 (by decide) (by decide) (by decide) (by decide) ?_
          exact lw_case_6 C hZ hsz a6 hi6 hL hI hP hS hl nxt
        | 7, _ =>
          intro tj
          refine lv_tableIn (tgt := 355) (off := 322) hx hb dL_law_33 (by decide) (by decide) (by decide) (by decide) ?_
          exact lw_case_7 C hZ hsz a7 hi6 hL hI hP hS hl nxt
        | 8, _ =>
          intro tj
          refine lv_tableIn (tgt := 418) (off := 385) hx hb dL_law_33 (by decide) (by decide) (by decide) (by decide) ?_
          exact lw_case_8 C hZ hsz a8 hi6 hL hI hP hS hl nxt
        | 9, _ =>
          intro tj
          refine lv_tableIn (tgt := 441) (off := 408) hx hb dL_law_33 (by decide) (by decide) (by decide) (by decide) ?_
          exact lw_case_9 C hZ hsz a9 hi6 hL hI hP hS hl nxt
        | 10, _ =>
          intro tj
          refine lv_tableIn (tgt := 474) (off := 441) hx hb dL_law_33 (by decide) (by decide) (by decide) (by decide) ?_
          exact lw_case_10 C hZ hsz a10 hi6 hL hI hP hS hl nxt
        | 11, _ =>
          intro tj
          refine lv_tableIn (tgt := 507) (off := 474) hx hb dL_law_33 (by decide) (by decide) (by decide) (by decide) ?_
          exact lw_case_11 C hZ hsz a11 hi6 hL hI hP hS hl nxt
        | 12, _ =>
          intro tj
          refine lv_tableIn (tgt := 540) (off := 507) hx hb dL_law_33 (by decide) (by decide) (by decide) (by decide) ?_
          exact lw_case_12 C hZ hsz a12 hi6 hL hI hP hS hl nxt
        | 13, _ =>
          intro tj
          refine lv_tableIn (tgt := 553) (off := 520) hx hb dL_law_33 (by decide) (by decide) (by decide) (by decide) ?_
          exact lw_case_13 C hZ hsz a13 hi6 hL hI hP hS hl nxt
        | 14, _ =>
          intro tj
          refine lv_tableIn (tgt := 566) (off := 533) hx hb dL_law_33 (by decide) (by decide) (by decide) (by decide) ?_
          exact lw_case_14 C hZ hsz a14 hi6 hL hI hP hS hl nxt
        | 15, _ =>
          intro tj
          refine lv_tableIn (tgt := 589) (off := 556) hx hb dL_law_33 (by decide) (by decide) (by decide) (by decide) ?_
          exact lw_case_15 C hZ hsz a15 hi6 hL hI hP hS hl nxt
        | 16, _ =>
          intro tj
          refine lv_tableIn (tgt := 602) (off := 569) hx hb dL_law_33 (by decide) (by decide) (by decide) (by decide) ?_
          exact lw_case_16 C hZ hsz a16 hi6 hL hI hP hS hl nxt
        | 17, _ =>
          intro tj
          refine lv_tableIn (tgt := 625) (off := 592) hx hb dL_law_33 (by decide) (by decide) (by decide) (by decide) ?_
          exact lw_case_17 C hZ hsz a17 hi6 hL hI hP hS hl nxt
        | 18, _ =>
          intro tj
          refine lv_tableIn (tgt := 648) (off := 615) hx hb dL_law_33 (by decide) (by decide) (by decide) (by decide) ?_
          exact lw_case_18 C hZ hsz a18 hi6 hL hI hP hS hl nxt
        | 19, _ =>
          intro tj
          refine lv_tableIn (tgt := 671) (off := 638) hx hb dL_law_33 (by decide) (by decide) (by decide) (by decide) ?_
          exact lw_case_19 C hZ hsz a19 hi6 hL hI hP hS hl nxt
        | 20, _ =>
          intro tj
          refine lv_tableIn (tgt := 694) (off := 661) hx hb dL_law_33 (by decide) (by decide) (by decide) (by decide) ?_
          exact lw_case_20 C hZ hsz a20 hi6 hL hI hP hS hl nxt
        | 21, _ =>
          intro tj
          refine lv_tableIn (tgt := 717) (off := 684) hx hb dL_law_33 (by decide) (by decide) (by decide) (by decide) ?_
          exact lw_case_21 C hZ hsz a21 hi6 hL hI hP hS hl nxt
        | 22, _ =>
          intro tj
          refine lv_tableIn (tgt := 740) (off := 707) hx hb dL_law_33 (by decide) (by decide) (by decide) (by decide) ?_
          exact lw_case_22 C hZ hsz a22 hi6 hL hI hP hS hl nxt
        | 23, _ =>
          intro tj
          refine lv_tableIn (tgt := 763) (off := 730) hx hb dL_law_33 (by decide) (by decide) (by decide) (by decide) ?_
          exact lw_case_23 C hZ hsz a23 hi6 hL hI hP hS hl nxt
        | k + 24, hq => exact absurd hq (by omega)
      · intro tj
        refine lv_tableOut (tgt := 786) hx hb dL_law_33 (Or.inr (by rw [tj]; omega)) (by decide) ?_
        exact nxt h H locs hI hP hS
end LWL

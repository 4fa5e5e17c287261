section RTS
variable {p : Program} {l : Launch} {e : Env} {R : Room} {s : State} {mid : MethodId} {args : Array Value} {below : List Frame} {meth : Method} {c : Code} {Q : State → Prop} {D : va_G} {cs : Nat → ClassId} {b0 : Nat} {sA : Nat → Nat} {n0 ne m pc : Nat} {ls st : List Value} {h h2 : rt_H} {Zs : State → Prop} {v : Option Value}
theorem rt_cl0_inv {m m2 m3 : Nat} {st as rr : List Value} (hr : rt_cl0 m m3 st = some (.inr (.inr (m2, as, rr)))) : m3 = m2 ∧ st = as.reverse ++ rr ∧ as.length = rt_na m2 ∧ as.all rt_o1 = true ∧ rt_na m2 ≤ rt_ml m2 ∧ rt_cs rr ≤ 8 ∧ rt_rf m2 + 1 ≤ rt_rf m ∧ 8 + (rt_ml m2 + 11) + rt_rl m2 ≤ rt_rl m := by
  unfold rt_cl0 at hr
  split at hr
  · rename_i hc
    obtain ⟨c1, c2, c3, c4, c5, c6⟩ := hc
    cases hr
    refine ⟨rfl, by rw [List.reverse_reverse, List.take_append_drop], by rw [List.length_reverse, List.length_take]; omega, by rw [List.all_reverse]; exact c2, c3, c4, c5, c6⟩
  · cases hr
/-- a call of the table, by its contract -/
theorem rt_w_tbl (C : rt_Cx p R s mid args meth c D cs b0 n0 ne m) (hZ : rt_Zok b0 sA Zs) (hz : Zs s) {m2 : Nat} {as rr : List Value} (hr : rt_act m pc ls st h = some (.inr (.inr (m2, as, rr)))) (hM : rt_Met l D cs b0 sA Zs m2 as h v h2) (hle : h.1 ≤ h2.1) (hne : h2.1 ≤ ne)
    (kk : rt_W p l e R s mid args below meth c Q D cs b0 sA n0 m (pc + 3) ls (v.toList ++ rr) h2) :
    rt_W p l e R s mid args below meth c Q D cs b0 sA n0 m pc ls st h := by
  obtain ⟨i, len, hd, hw, hi⟩ := rt_act_inv hr
  have C' := C
  obtain ⟨hx, hb, hml, hown, hts, hret, hlk, hnm, hs0, hK, hN, hR⟩ := C'
  have hsl := rt_sl_le hle
  have hsl2 := rt_sl_le hne
  -- what comes behind every kind of call
  have fin : ∀ (hn : n0 ≤ h.1) (H : Heap) (locs : List Loc) (ca : Array Slot), lv_has ca (rt_ml m) (rt_lv b0 sA ls) → rt_lok (rt_ml m) ls → va_S (fun q => b0 ≤ q) s.heap H locs → ∀ (a : Array Value) (st0 : List Value), va_Run p l e R s mid args below meth c H locs (h.1 - n0) (rt_sl h.1 - rt_sl n0) (h2.1 - h.1) (rt_sl h2.1 - rt_sl h.1) (F0 mid pc ca st0) (rr.map (rt_cv b0 sA)) (rt_Q D cs b0 sA v h2 a) (fun q => b0 ≤ q) →
      W p l e R s mid args below meth c H locs (h.1 - n0) (rt_sl h.1 - rt_sl n0) Q (F0 mid pc ca st0) := by
    intro hn H locs ca hl ho hS a st0 hrun
    have hsl0 := rt_sl_le hn
    refine rt_after hrun hS (fun H1 locs1 hP1 hS1 => ?_)
    have k := kk (Nat.le_trans hn hle) H1 locs1 ca hP1 hS1 hl ho
    rw [show h2.1 - n0 = h.1 - n0 + (h2.1 - h.1) by omega, show rt_sl h2.1 - rt_sl n0 = rt_sl h.1 - rt_sl n0 + (rt_sl h2.1 - rt_sl h.1) by omega, List.map_append] at k
    cases v <;> exact k
  have room : ∀ (hn : n0 ≤ h.1), h.1 - n0 + (h2.1 - h.1) ≤ R.cells ∧ rt_sl h.1 - rt_sl n0 + (rt_sl h2.1 - rt_sl h.1) ≤ R.slots := by
    intro hn
    have hsl0 := rt_sl_le hn
    rw [hR]
    exact ⟨by show _ ≤ ne - n0; omega, by show _ ≤ rt_sl ne - rt_sl n0; omega⟩
  cases hc : rt_nc i with
  | true =>
    have h1 := rt_ok_ins (m := m) (pc := pc) (ls := ls) (st := st) (h := h) hc
    rw [hi] at h1
    exact False.elim h1
  | false =>
    rcases rt_nc_cases hc with ⟨idx, rfl⟩ | ⟨idx, rfl⟩ | ⟨idx, rfl⟩ | rfl | rfl | rfl
    · -- virtual
      obtain rfl := rt_wl_of hw 2 rfl
      have hi : rt_call 0 m pc idx ls st h = some (.inr (.inr (m2, as, rr))) := hi
      unfold rt_call at hi
      split at hi
      · rename_i x1 x2 how m3 xs hf
        obtain ⟨x5, x6, x7, x8⟩ := xs
        have hst := rt_cSAt hf
        obtain ⟨e1, e2, e3⟩ := rt_caAt hf
        split at hi
        · unfold rt_cV at hi
          split at hi
          · rename_i j as' hrev
            split at hi
            · rename_i ho
              obtain ⟨rfl, hstk, hlen, hall, hnl, hcs, hrf, hrl⟩ := rt_cl0_inv hi
              have has : as = .ref j :: as' := by
                rw [← hrev, hstk, ← hlen]
                simp
              subst has
              dsimp only at e1 e2
              subst e1; subst e2
              simp only [rt_cac, Bool.and_eq_true, decide_eq_true_eq] at e3
              obtain ⟨⟨⟨⟨hm3, t1⟩, t2⟩, t3⟩, t4⟩ := e3
              have hmt := rt_mtAt hm3
              have hs2 : (rt_mt m3).2.2.2.2.2.2.1 = 0 := by simpa [rt_css] using hst
              have hnp := hmt.2.2.2.2.2
              rw [hs2] at hnp
              intro hn H locs ca hP hS hl hok
              refine rt_sized (fun hsz => ?_)
              have hsize := rt_size hs0 hn hP hS hsz
              have hkd := rt_obAt ho
              refine fin hn H locs ca hl hok hS _ _ (va_runV (As := as'.map (rt_cv b0 sA)) (C := (rt_nm m3).cls) (b := b0 + j) (n := rt_na m3 - 1) ⟨hx, hb, hml, hown, hts⟩ hM ⟨callB_of _ hts (rt_gin hm3) rfl rfl rfl (hts _ (rt_inAt t4 rfl)) (hts _ (rt_inAt t1 rfl)) ⟨hmt.2.2.2.1, hmt.2.2.2.2.1, hnp⟩ (by rw [hR]; exact ⟨hrf, hrl⟩), hts _ (rt_inAt t2 rfl), hts _ (rt_inAt t3 rfl)⟩ ⟨rt_blind hZ, ?_, ?_⟩ rfl ?_ hl.1 ?_ (lv_room (by rw [rt_cv_cs]; exact hcs)) hd (room hn))
              · have h5 := va_recv hK hP (rt_clAt (rt_kd_lt hkd.2)) (rt_obj (b0 := b0) (cs := cs) ho)
                rw [hmt.2.1]
                exact h5
              · exact rt_pre C hZ hz hP hS hsize
              · rw [List.length_map]
                simp only [List.length_cons] at hlen
                omega
              · show st.map (rt_cv b0 sA) = _
                rw [hstk]
                simp [rt_cv]
            · cases hi
          · cases hi
        all_goals first
          | (cases hi; done)
          | (split at hi
             · split at hi <;> (cases hi; done)
             · (cases hi; done))
          | (rename_i hk; cases hk; done)
      · cases hi
    · -- static
      obtain rfl := rt_wl_of hw 2 rfl
      have hi : rt_call 1 m pc idx ls st h = some (.inr (.inr (m2, as, rr))) := hi
      unfold rt_call at hi
      split at hi
      · rename_i x1 x2 how m3 xs hf
        obtain ⟨x5, x6, x7, x8⟩ := xs
        have hst := rt_cSAt hf
        obtain ⟨e1, e2, e3⟩ := rt_caAt hf
        split at hi
        · rename_i hk; cases hk
        · obtain ⟨rfl, hstk, hlen, hall, hnl, hcs, hrf, hrl⟩ := rt_cl0_inv hi
          dsimp only at e1 e2
          subst e1; subst e2
          simp only [rt_cac, Bool.and_eq_true, decide_eq_true_eq] at e3
          obtain ⟨⟨⟨hm3, t1⟩, t2⟩, t3⟩ := e3
          have hmt := rt_mtAt hm3
          have hs2 : (rt_mt m3).2.2.2.2.2.2.1 = 1 := by simpa [rt_css] using hst
          have hnp := hmt.2.2.2.2.2
          rw [hs2] at hnp
          intro hn H locs ca hP hS hl hok
          refine rt_sized (fun hsz => ?_)
          have hsize := rt_size hs0 hn hP hS hsz
          refine fin hn H locs ca hl hok hS _ _ (va_runS (As := as.map (rt_cv b0 sA)) (n := rt_na m3) ⟨hx, hb, hml, hown, hts⟩ hM ⟨callB_of _ hts (rt_gin hm3) rfl rfl rfl (hts _ (rt_inAt t3 rfl)) (hts _ (rt_inAt t1 rfl)) ⟨hmt.2.2.2.1, hmt.2.2.2.2.1, hnp⟩ (by rw [hR]; exact ⟨hrf, hrl⟩), hts _ (rt_inAt t2 rfl)⟩ ⟨rt_blind hZ, rt_pre C hZ hz hP hS hsize⟩ rfl (by rw [List.length_map]; exact hlen) hl.1 ?_ (lv_room (by rw [rt_cv_cs]; exact hcs)) hd (room hn))
          show st.map (rt_cv b0 sA) = _
          rw [hstk]
          simp
        all_goals first
          | (cases hi; done)
          | (split at hi
             · split at hi <;> (cases hi; done)
             · (cases hi; done))
          | (rename_i hk; cases hk; done)
      · cases hi
    · -- special
      obtain rfl := rt_wl_of hw 2 rfl
      have hi : rt_call 2 m pc idx ls st h = some (.inr (.inr (m2, as, rr))) := hi
      unfold rt_call at hi
      split at hi
      · rename_i x1 x2 how m3 xs hf
        obtain ⟨x5, x6, x7, x8⟩ := xs
        have hst := rt_cSAt hf
        obtain ⟨e1, e2, e3⟩ := rt_caAt hf
        split at hi
        · rename_i hk; cases hk
        · rename_i hk; cases hk
        · split at hi
          · rename_i j as' hrev
            obtain ⟨rfl, hstk, hlen, hall, hnl, hcs, hrf, hrl⟩ := rt_cl0_inv hi
            have has : as = .ref j :: as' := by
              rw [← hrev, hstk, ← hlen]
              simp
            subst has
            dsimp only at e1 e2
            subst e1; subst e2
            simp only [rt_cac, Bool.and_eq_true, decide_eq_true_eq] at e3
            obtain ⟨⟨⟨⟨⟨hm3, t1⟩, t2⟩, t3⟩, t4⟩, t5⟩ := e3
            have hmt := rt_mtAt hm3
            have hs2 : (rt_mt m3).2.2.2.2.2.2.1 = 0 := by simpa [rt_css] using hst
            have hnp := hmt.2.2.2.2.2
            rw [hs2] at hnp
            intro hn H locs ca hP hS hl hok
            refine rt_sized (fun hsz => ?_)
            have hsize := rt_size hs0 hn hP hS hsz
            have hws : rt_ws m3 = Cond.code (rt_nm m3) (rt_code m3) (rt_ml m3) none :: rt_tt := by unfold rt_ws; rw [t5]
            refine fin hn H locs ca hl hok hS _ _ (va_runI (As := as'.map (rt_cv b0 sA)) (b := b0 + j) (n := rt_na m3 - 1) ⟨hx, hb, hml, hown, hts⟩ hM ⟨callB_of _ hts (rt_gin hm3) hws rfl rfl (hts _ (rt_inAt t3 rfl)) (hts _ (rt_inAt t1 rfl)) ⟨hmt.2.2.2.1, hmt.2.2.2.2.1, hnp⟩ (by rw [hR]; exact ⟨hrf, hrl⟩), t4, hts _ (rt_inAt t2 rfl)⟩ ⟨rt_blind hZ, rt_pre C hZ hz hP hS hsize⟩ rfl ?_ hl.1 ?_ (lv_room (by rw [rt_cv_cs]; exact hcs)) hd (room hn))
            · rw [List.length_map]
              simp only [List.length_cons] at hlen
              omega
            · show st.map (rt_cv b0 sA) = _
              rw [hstk]
              simp [rt_cv]
          · cases hi
        · split at hi
          · rename_i j as' hrev
            obtain ⟨rfl, hstk, hlen, hall, hnl, hcs, hrf, hrl⟩ := rt_cl0_inv hi
            have has : as = .ref j :: as' := by
              rw [← hrev, hstk, ← hlen]
              simp
            subst has
            dsimp only at e1 e2
            subst e1; subst e2
            simp only [rt_cac, Bool.and_eq_true, decide_eq_true_eq] at e3
            obtain ⟨⟨⟨⟨⟨hm3, t1⟩, t2⟩, t3⟩, t4⟩, t5⟩ := e3
            have hmt := rt_mtAt hm3
            have hs2 : (rt_mt m3).2.2.2.2.2.2.1 = 0 := by simpa [rt_css] using hst
            have hnp := hmt.2.2.2.2.2
            rw [hs2] at hnp
            intro hn H locs ca hP hS hl hok
            refine rt_sized (fun hsz => ?_)
            have hsize := rt_size hs0 hn hP hS hsz
            have hws : rt_ws m3 = Cond.code (rt_nm m3) (rt_code m3) (rt_ml m3) none :: rt_tt := by unfold rt_ws; rw [t5]
            have hnest : Cond.methodLinkNest (rt_cn (rt_own m)) _ (rt_nm m3) "RoomTalk" ∈ rt_nest := List.mem_filter.mpr ⟨List.mem_of_getElem? t1, rfl⟩
            refine fin hn H locs ca hl hok hS _ _ (va_runIN (host := "RoomTalk") (As := as'.map (rt_cv b0 sA)) (b := b0 + j) (n := rt_na m3 - 1) ⟨hx, hb, hml, hown, hts⟩ hM ⟨va_cnB _ hts (rt_gin hm3) hws rfl rfl (hN.1 _ hnest) (hts _ (rt_inAt t3 rfl)) ⟨hmt.2.2.2.1, hmt.2.2.2.2.1, hnp⟩ (by rw [hR]; exact ⟨hrf, hrl⟩), t4, hts _ (rt_inAt t2 rfl)⟩ ⟨rt_blind hZ, rt_pre C hZ hz hP hS hsize⟩ rfl ?_ hl.1 ?_ (lv_room (by rw [rt_cv_cs]; exact hcs)) hd (room hn))
            · rw [List.length_map]
              simp only [List.length_cons] at hlen
              omega
            · show st.map (rt_cv b0 sA) = _
              rw [hstk]
              simp [rt_cv]
          · cases hi
        all_goals first
          | (cases hi; done)
          | (split at hi
             · split at hi <;> (cases hi; done)
             · (cases hi; done))
          | (rename_i hk; cases hk; done)
      · cases hi
    all_goals
      simp only [rt_ins] at hi
      split at hi
      · split at hi <;> cases hi
      · cases hi
end RTS

section RTD
variable {p : Program} {l : Launch} {e : Env} {R : Room} {s : State} {mid : MethodId} {args : Array Value} {below : List Frame} {meth : Method} {c : Code} {Q : State → Prop} {D : va_G} {cs : Nat → ClassId} {b0 : Nat} {sA : Nat → Nat} {n0 ne m pc pc2 : Nat} {ls st ls2 st2 : List Value} {h h2 : rt_H} {Zs : State → Prop}
/-- the calls that are no calls of the table: Object's constructor, arraycopy, the string's two -/
theorem rt_w_call (C : rt_Cx p R s mid args meth c D cs b0 n0 ne m) (hZ : rt_Zok b0 sA Zs) (hz : Zs s) (hne : h2.1 ≤ ne) {k idx : Nat} (hd0 : k = 0 → decode (rt_code m) pc = .ok (.invokevirtual idx, 3)) (hd1 : k = 1 → decode (rt_code m) pc = .ok (.invokestatic idx, 3)) (hd2 : k = 2 → decode (rt_code m) pc = .ok (.invokespecial idx, 3))
    (hr : rt_call k m pc idx ls st h = some (.inr (.inl (pc2, ls2, st2, h2)))) (kk : rt_W p l e R s mid args below meth c Q D cs b0 sA n0 m pc2 ls2 st2 h2) :
    rt_W p l e R s mid args below meth c Q D cs b0 sA n0 m pc ls st h := by
  have hcl0 : ∀ m2 st, rt_cl0 m m2 st ≠ some (.inr (.inl (pc2, ls2, st2, h2))) := by
    intro m2 st
    unfold rt_cl0
    split <;> (intro q; cases q)
  unfold rt_call at hr
  split at hr
  · rename_i x1 x2 how m2 xs hf
    obtain ⟨x5, x6, x7, x8⟩ := xs
    have C' := C
    obtain ⟨hx, hb, hml, hown, hts, hret, hlk, hnm, hsz, hK, hN, hR⟩ := C'
    split at hr
    · unfold rt_cV at hr
      split at hr
      · split at hr
        · exact absurd hr (hcl0 _ _)
        · cases hr
      · cases hr
    · exact absurd hr (hcl0 _ _)
    · split at hr
      · exact absurd hr (hcl0 _ _)
      · cases hr
    · split at hr
      · exact absurd hr (hcl0 _ _)
      · cases hr
    · split at hr
      · rename_i a r
        split at hr
        · rename_i hc
          obtain ⟨e1, e2, e3⟩ := rt_caAt hf
          dsimp only at e1 e2
          subst e1; subst e2
          simp only [rt_cac, Bool.and_eq_true, decide_eq_true_eq] at e3
          obtain ⟨rfl, rfl, rfl, rfl⟩ := rt_go_inv hr
          intro hn H locs ca hP hS hl ho
          exact W.objInit hx hb hown (hts _ (rt_inAt e3.1.1 rfl)) (hts _ (rt_inAt e3.1.2 rfl)) (hts _ (rt_inAt e3.2 rfl)) rfl (by show ca.size = _; rw [hl.1, hml]) rfl (hd2 rfl) (by rw [hR]; exact hc.1) (by
            rw [rt_cv_cs, hR]
            have : (F0 mid pc ca ((Value.ref a :: r).map (rt_cv b0 sA))).monitorRoom = 0 := by simp [JFrame.monitorRoom]
            rw [this]
            show 2 * 0 + rt_cs _ + 12 ≤ rt_rl m
            omega) (kk hn H locs ca hP hS hl ho)
        · cases hr
      · cases hr
    · split at hr
      · split at hr
        · rename_i hc
          exact rt_w_copy C (hd1 rfl) hf hc hr kk
        · cases hr
      · cases hr
    · split at hr
      · rename_i r
        split at hr
        · rename_i hc
          obtain ⟨rfl, rfl, rfl, rfl⟩ := rt_go_inv hr
          intro hn H locs ca hP hS hl ho
          have hs1 := rt_sl_le hne
          have hs0 := rt_sl_le hn
          exact hZ.2.2.2.1 _ _ _ _ _ _ _ _ _ _ _ _ _ _ _ _ _ _ _ _ _ _ _ _ _ _ _ _ _ _ _ C hz (hd0 rfl) hf hc.1 hc.2.1 (by rw [rt_cv_cs]; exact hc.2.2) (by rw [hR]; show h.1 - n0 ≤ ne - n0; omega) (by rw [hR]; show rt_sl h.1 - rt_sl n0 ≤ rt_sl ne - rt_sl n0; omega) hl.1 hS (kk hn H locs ca hP hS hl ho)
        · cases hr
      · cases hr
    · split at hr
      · rename_i x r
        split at hr
        · rename_i hc
          obtain ⟨rfl, rfl, rfl, rfl⟩ := rt_go_inv hr
          intro hn H locs ca hP hS hl ho
          have hs1 := rt_sl_le hne
          have hs0 := rt_sl_le hn
          exact hZ.2.2.2.2 _ _ _ _ _ _ _ _ _ _ _ _ _ _ _ _ _ _ _ _ _ _ _ _ _ _ _ _ _ _ _ _ C hz (hd0 rfl) hf hc.1 hc.2.1 (by rw [rt_cv_cs]; exact hc.2.2.1) hc.2.2.2 (by rw [hR]; show h.1 - n0 ≤ ne - n0; omega) (by rw [hR]; show rt_sl h.1 - rt_sl n0 ≤ rt_sl ne - rt_sl n0; omega) hl.1 hS (kk hn H locs ca hP hS hl ho)
        · cases hr
      · cases hr
    · cases hr
  · cases hr
theorem rt_cmT {P A : Prop} [Decidable P] {b : Bool} (hb : decide P = b) (kt : b = true → A) : P → A := fun hp => kt (by rw [← hb]; exact decide_eq_true hp)
theorem rt_cmF {P A : Prop} [Decidable P] {b : Bool} (hb : decide P = b) (kf : b = false → A) : ¬ P → A := fun hp => kf (by rw [← hb]; exact decide_eq_false hp)
theorem rt_cmN {P A : Prop} [Decidable P] {b : Bool} (hb : decide (¬ P) = b) (kf : b = false → A) : P → A := fun hp => kf (by rw [← hb]; exact decide_eq_false (fun q => q hp))
set_option maxHeartbeats 4000000 in
theorem rt_w_go (C : rt_Cx p R s mid args meth c D cs b0 n0 ne m) (hZ : rt_Zok b0 sA Zs) (hz : Zs s) (hne : h2.1 ≤ ne) (hr : rt_act m pc ls st h = some (.inr (.inl (pc2, ls2, st2, h2)))) (kk : rt_W p l e R s mid args below meth c Q D cs b0 sA n0 m pc2 ls2 st2 h2) :
    rt_W p l e R s mid args below meth c Q D cs b0 sA n0 m pc ls st h := by
  have C' := C
  obtain ⟨hx, hb, hml, hown, hts, hret, hlk, hnm, hsz, hK, hN, hR⟩ := C'
  unfold rt_act at hr
  split at hr
  · rename_i i len hd
    split at hr
    · rename_i hw
      unfold rt_ins at hr
      split at hr
      -- iload_n
      · obtain rfl := rt_wl_of hw 0 rfl
        exact rt_w_ld hr kk (fun hq k => lv_iload_n hx hb hd rfl hq k)
      · obtain rfl := rt_wl_of hw 1 rfl
        exact rt_w_ld hr kk (fun hq k => lv_iload hx hb hd hq k)
      · obtain rfl := rt_wl_of hw 0 rfl
        exact rt_w_ldA hr kk (fun hq k => lv_aload_n hx hb hd rfl hq k)
      · obtain rfl := rt_wl_of hw 1 rfl
        exact rt_w_ldA hr kk (fun hq k => lv_aload hx hb hd hq k)
      -- lload_n
      · obtain rfl := rt_wl_of hw 0 rfl
        split at hr
        · rename_i x hq
          obtain ⟨rfl, rfl, rfl, rfl⟩ := rt_go_inv hr
          intro hn H locs ca hP hS hl ho
          exact lv_lload_n hx hb hd rfl (rt_lvAt hl hq rfl) (kk hn H locs ca hP hS hl ho)
        · cases hr
      -- istore_n
      · obtain rfl := rt_wl_of hw 0 rfl
        split at hr
        · exact rt_w_sv rfl hr kk (fun hl hn k => lv_istore_n hx hb hd rfl hl hn rfl k)
        · cases hr
      · obtain rfl := rt_wl_of hw 1 rfl
        split at hr
        · exact rt_w_sv rfl hr kk (fun hl hn k => lv_istore hx hb hd hl hn rfl k)
        · cases hr
      -- astore_n
      · obtain rfl := rt_wl_of hw 0 rfl
        split at hr
        · exact rt_w_sv rfl hr kk (fun hl hn k => lv_astore_n hx hb hd rfl hl hn rfl k)
        · exact rt_w_sv rfl hr kk (fun hl hn k => lv_astore_n hx hb hd rfl hl hn rfl k)
        · cases hr
      · obtain rfl := rt_wl_of hw 1 rfl
        split at hr
        · exact rt_w_sv rfl hr kk (fun hl hn k => lv_astore hx hb hd hl hn rfl k)
        · cases hr
      -- lstore_n
      · obtain rfl := rt_wl_of hw 0 rfl
        split at hr
        · split at hr
          · rename_i u hu
            split at hr
            · rename_i hc
              exact rt_w_lstore hx hb hd hu hc hr kk
            · cases hr
          · cases hr
        · cases hr
      -- iinc
      · obtain rfl := rt_wl_of hw 2 rfl
        split at hr
        · rename_i x hq
          exact rt_w_iinc hx hb hd hq hr kk
        · cases hr
      -- iconst bipush sipush lconst
      · obtain rfl := rt_wl_of hw 0 rfl
        exact rt_w_st hr kk (fun _ k => lv_iconst hx hb hd rfl k)
      · obtain rfl := rt_wl_of hw 1 rfl
        exact rt_w_st hr kk (fun _ k => lv_bipush hx hb hd rfl k)
      · obtain rfl := rt_wl_of hw 2 rfl
        exact rt_w_st hr kk (fun _ k => lv_sipush hx hb hd rfl k)
      · obtain rfl := rt_wl_of hw 0 rfl
        exact rt_w_st hr kk (fun _ k => lv_lconst hx hb hd rfl k)
      -- ldc ldc_w ldc2_w
      · obtain rfl := rt_wl_of hw 1 rfl
        split at hr
        · rename_i hf
          exact rt_w_st hr kk (fun _ k => lv_ldc hx hb hown (hts _ (rt_ciAt hf)) hd k)
        · split at hr
          · rename_i hc
            obtain ⟨hc1, rfl⟩ := hc
            rw [hc1] at hown
            exact rt_w_st hr kk (fun _ k => hZ.2.2.1 _ _ _ _ _ _ _ _ _ _ _ _ _ _ _ _ _ _ _ hx hb hown hz hd k)
          · cases hr
      · obtain rfl := rt_wl_of hw 2 rfl
        split at hr
        · rename_i hf
          exact rt_w_st hr kk (fun _ k => lv_ldcw hx hb hown (hts _ (rt_ciAt hf)) hd k)
        · cases hr
      · obtain rfl := rt_wl_of hw 2 rfl
        split at hr
        · rename_i hf
          exact rt_w_st hr kk (fun _ k => lv_ldc2 hx hb hown (hts _ (rt_cLAt hf)) hd k)
        · cases hr
      -- arithmetic
      · obtain rfl := rt_wl_of hw 0 rfl
        exact rt_w_i2 hr kk (fun k => lv_iadd hx hb hd k)
      · obtain rfl := rt_wl_of hw 0 rfl
        exact rt_w_i2 hr kk (fun k => lv_isub hx hb hd k)
      · obtain rfl := rt_wl_of hw 0 rfl
        exact rt_w_i2 hr kk (fun k => lv_imul hx hb hd k)
      · obtain rfl := rt_wl_of hw 0 rfl
        exact rt_w_i2 hr kk (fun k => lv_iand hx hb hd k)
      · obtain rfl := rt_wl_of hw 0 rfl
        exact rt_w_i2 hr kk (fun k => lv_ior hx hb hd k)
      · obtain rfl := rt_wl_of hw 0 rfl
        exact rt_w_i2 hr kk (fun k => lv_ixor hx hb hd k)
      · obtain rfl := rt_wl_of hw 0 rfl
        exact rt_w_i2 hr kk (fun k => lv_ishl hx hb hd k)
      · obtain rfl := rt_wl_of hw 0 rfl
        exact rt_w_i2 hr kk (fun k => lv_ishr hx hb hd k)
      · obtain rfl := rt_wl_of hw 0 rfl
        exact rt_w_i2 hr kk (fun k => lv_iushr hx hb hd rfl k)
      · obtain rfl := rt_wl_of hw 0 rfl
        split at hr
        · split at hr
          · cases hr
          · rename_i hy
            exact rt_w_st hr kk (fun _ k => lv_idiv hx hb hd hy k)
        · cases hr
      · obtain rfl := rt_wl_of hw 0 rfl
        split at hr
        · split at hr
          · cases hr
          · rename_i hy
            exact rt_w_st hr kk (fun _ k => lv_irem hx hb hd hy k)
        · cases hr
      · obtain rfl := rt_wl_of hw 0 rfl
        exact rt_w_l2 hr kk (fun k => lv_ladd hx hb hd k)
      · obtain rfl := rt_wl_of hw 0 rfl
        exact rt_w_l2 hr kk (fun k => lv_lsub hx hb hd k)
      · obtain rfl := rt_wl_of hw 0 rfl
        exact rt_w_l2 hr kk (fun k => lv_lmul hx hb hd k)
      -- i2l i2b lcmp
      · obtain rfl := rt_wl_of hw 0 rfl
        split at hr
        · exact rt_w_st hr kk (fun _ k => lv_i2l hx hb hd rfl k)
        · cases hr
      · obtain rfl := rt_wl_of hw 0 rfl
        split at hr
        · exact rt_w_st hr kk (fun _ k => lv_i2b hx hb hd rfl k)
        · cases hr
      · obtain rfl := rt_wl_of hw 0 rfl
        split at hr
        · exact rt_w_st hr kk (fun _ k => W.lcmp hx hb hd k)
        · cases hr
      -- dup dup2 pop
      · obtain rfl := rt_wl_of hw 0 rfl
        split at hr
        · split at hr
          · rename_i hc
            exact rt_w_st hr kk (fun _ k => lv_dup hx hb hd (rt_o1cat hc) k)
          · cases hr
        · cases hr
      · obtain rfl := rt_wl_of hw 0 rfl
        split at hr
        · split at hr
          · rename_i hc
            rw [Bool.and_eq_true] at hc
            exact rt_w_st hr kk (fun _ k => lv_dup2_11 hx hb hd (rt_o1cat hc.1) (rt_o1cat hc.2) k)
          · cases hr
        · cases hr
      · obtain rfl := rt_wl_of hw 0 rfl
        split at hr
        · split at hr
          · rename_i hc
            exact rt_w_st hr kk (fun _ k => lv_pop hx hb hd (rt_o1cat hc) k)
          · cases hr
        · cases hr
      -- goto
      · obtain rfl := rt_wl_of hw 2 rfl
        exact rt_w_sw hr kk (fun ho ht k => by cases ho; exact lv_goto hx hb hd ht k)
      -- ifCond
      · rename_i cnd off
        obtain rfl := rt_wl_of hw 2 rfl
        split at hr
        · rename_i x r
          cases cnd with
          | eq => exact rt_w_br hr kk (fun ht kt kf => lv_if_eq hx hb hd ht (rt_cmT rfl kt) (rt_cmF rfl kf))
          | ne => exact rt_w_br hr kk (fun ht kt kf => lv_if_ne hx hb hd ht (rt_cmT rfl kt) (rt_cmN rfl kf))
          | lt => exact rt_w_br hr kk (fun ht kt kf => lv_if_lt hx hb hd ht (rt_cmT rfl kt) (rt_cmF rfl kf))
          | ge => exact rt_w_br hr kk (fun ht kt kf => lv_if_ge hx hb hd ht (rt_cmT rfl kt) (rt_cmF rfl kf))
          | gt => exact rt_w_br hr kk (fun ht kt kf => lv_if_gt hx hb hd ht (rt_cmT rfl kt) (rt_cmF rfl kf))
          | le => exact rt_w_br hr kk (fun ht kt kf => lv_if_le hx hb hd ht (rt_cmT rfl kt) (rt_cmF rfl kf))
        · cases hr
      · rename_i cnd off
        obtain rfl := rt_wl_of hw 2 rfl
        split at hr
        · rename_i x y r
          cases cnd with
          | eq => exact rt_w_br hr kk (fun ht kt kf => lv_icmp_eq hx hb hd ht (rt_cmT rfl kt) (rt_cmF rfl kf))
          | ne => exact rt_w_br hr kk (fun ht kt kf => lv_icmp_ne hx hb hd ht (rt_cmT rfl kt) (rt_cmN rfl kf))
          | lt => exact rt_w_br hr kk (fun ht kt kf => lv_icmp_lt hx hb hd ht (rt_cmT rfl kt) (rt_cmF rfl kf))
          | ge => exact rt_w_br hr kk (fun ht kt kf => lv_icmp_ge hx hb hd ht (rt_cmT rfl kt) (rt_cmF rfl kf))
          | gt => exact rt_w_br hr kk (fun ht kt kf => lv_icmp_gt hx hb hd ht (rt_cmT rfl kt) (rt_cmF rfl kf))
          | le => exact rt_w_br hr kk (fun ht kt kf => lv_icmp_le hx hb hd ht (rt_cmT rfl kt) (rt_cmF rfl kf))
        · cases hr
      -- ifnull
      · obtain rfl := rt_wl_of hw 2 rfl
        split at hr
        · exact rt_w_st hr kk (fun _ k => lv_ifnull hx hb hd k)
        · cases hr
      -- tableswitch
      · split at hr
        · refine rt_w_sw hr kk (fun ho ht k => ?_)
          split at ho
          · rename_i hc
            cases ho
            exact lv_tableOut hx hb hd hc ht k
          · rename_i hc
            have h1 : ¬ _ < _ := fun q => hc (Or.inl q)
            have h2 : ¬ _ < _ := fun q => hc (Or.inr q)
            exact lv_tableIn hx hb hd h1 h2 ho ht k
        · cases hr
      · split at hr
        · split at hr
          · rename_i hc
            refine rt_w_sw hr kk (fun ho ht k => ?_)
            cases ho
            exact lv_lookup hx hb hd hc rfl ht k
          · cases hr
        · cases hr
      -- getfield putfield
      · obtain rfl := rt_wl_of hw 2 rfl
        exact rt_w_getf C hd hr kk
      · obtain rfl := rt_wl_of hw 2 rfl
        exact rt_w_putf C hd hr kk
      -- loads
      · obtain rfl := rt_wl_of hw 0 rfl
        split at hr
        · split at hr
          · rename_i hc
            rw [Bool.and_eq_true] at hc
            exact rt_w_st hr kk (fun hP k => va_iald hx hb hK hP _ 0 (rt_a1 hc.1) rfl (rt_inIn hc.2) hd k)
          · cases hr
        · cases hr
      · obtain rfl := rt_wl_of hw 0 rfl
        split at hr
        · split at hr
          · rename_i hc
            rw [Bool.and_eq_true, Bool.or_eq_true] at hc
            rcases hc.1 with hq | hq
            · exact rt_w_st hr kk (fun hP k => va_bald hx hb hK hP _ 1 (rt_a2 hq) rfl (rt_inIn hc.2) hd k)
            · exact rt_w_st hr kk (fun hP k => va_zald hx hb hK hP _ 2 (rt_a3 hq) rfl (rt_inIn hc.2) hd k)
          · cases hr
        · cases hr
      · obtain rfl := rt_wl_of hw 0 rfl
        split at hr
        · split at hr
          · rename_i hc
            rw [Bool.and_eq_true] at hc
            exact rt_w_st hr kk (fun hP k => va_lald hx hb hK hP _ 3 (rt_a4 hc.1) rfl (rt_inIn hc.2) hd k)
          · cases hr
        · cases hr
      · obtain rfl := rt_wl_of hw 0 rfl
        split at hr
        · split at hr
          · rename_i hc
            rw [Bool.and_eq_true] at hc
            split at hr
            · rename_i j hj
              refine rt_w_st hr kk (fun hP k => va_aldq hx hb hK hP _ 4 (rt_a5 hc.1) rfl (rt_inIn hc.2) hd ?_)
              rw [hj]
              exact k
            · cases hr
          · cases hr
        · cases hr
      -- stores
      · obtain rfl := rt_wl_of hw 0 rfl
        split at hr
        · split at hr
          · rename_i hc
            exact rt_w_iast C hd hc hr kk
          · cases hr
        · cases hr
      · obtain rfl := rt_wl_of hw 0 rfl
        split at hr
        · split at hr
          · rename_i hc
            exact rt_w_bast C hd hc hr kk
          · split at hr
            · rename_i hc
              exact rt_w_zast C hd hc hr kk
            · cases hr
        · cases hr
      · obtain rfl := rt_wl_of hw 0 rfl
        split at hr
        · split at hr
          · rename_i hc
            exact rt_w_last C hd hc hr kk
          · cases hr
        · cases hr
      · obtain rfl := rt_wl_of hw 0 rfl
        split at hr
        · split at hr
          · rename_i hc
            exact rt_w_aast C hd hc hr kk
          · cases hr
        · cases hr
      -- new newarray anewarray
      · obtain rfl := rt_wl_of hw 2 rfl
        split at hr
        · rename_i x1 x2 ci xs hf
          obtain ⟨p1, p2, p3⟩ := xs
          split at hr
          · rename_i hc
            exact rt_w_obj C hne hd hf hc hr kk
          · cases hr
        · cases hr
      · obtain rfl := rt_wl_of hw 1 rfl
        split at hr
        · split at hr
          · rename_i hc
            exact rt_w_newa C hne hd hc hr kk
          · cases hr
        · cases hr
      · obtain rfl := rt_wl_of hw 2 rfl
        split at hr
        · split at hr
          · rename_i hc
            exact rt_w_newr C hne hd hc hr kk
          · cases hr
        · cases hr
      -- calls
      · obtain rfl := rt_wl_of hw 2 rfl
        exact rt_w_call C hZ hz hne (fun _ => hd) (fun q => by cases q) (fun q => by cases q) hr kk
      · obtain rfl := rt_wl_of hw 2 rfl
        exact rt_w_call C hZ hz hne (fun q => by cases q) (fun _ => hd) (fun q => by cases q) hr kk
      · obtain rfl := rt_wl_of hw 2 rfl
        exact rt_w_call C hZ hz hne (fun q => by cases q) (fun q => by cases q) (fun _ => hd) hr kk
      -- returns: none goes on
      · split at hr
        · split at hr <;> cases hr
        · cases hr
      · split at hr
        · split at hr <;> cases hr
        · cases hr
      · split at hr
        · split at hr <;> cases hr
        · cases hr
      · cases hr
    · cases hr
  · cases hr
end RTD

section P73
variable {e : Nat} {I I1 I2 : Nat → Nat → Int32} {L L1 L2 : Nat → Nat → Int64} {R R2 : Nat → Nat → Option Nat} {a b O P T E k i c n N p en j nw md fm kd md2 f S M s : Nat} {K Rl d t : Nat → Nat} {Lk : Nat → Nat → Bool} {Nn : Nat → Option Nat} {W : List (Nat → Nat)} {dn has pl : Bool} {s3 : PsT} {x v : Int32} {wl : Nat → List Nat} {tp : Nat → PhT} {td : Nat → Nat → Nat} {to2 : Nat → Option Nat} {ln : Option Nat} {q : PhT}
theorem GRoom_fr (h : GRoom I T E) (hc : ∀ c, (1 ≤ c ∧ c ≤ 6) ∨ (34 ≤ c ∧ c ≤ 43) → I2 c = I c) (h0 : I2 33 0 = I 33 0) (h1 : I2 33 1 = I 33 1) : GRoom I2 T E := by
  unfold GRoom at h ⊢
  rw [hc 1 (by omega), hc 2 (by omega), hc 3 (by omega), hc 4 (by omega), hc 5 (by omega), hc 6 (by omega), hc 34 (by omega), hc 35 (by omega), hc 36 (by omega), hc 37 (by omega), hc 38 (by omega), hc 39 (by omega), hc 40 (by omega), hc 41 (by omega), hc 42 (by omega), hc 43 (by omega), h0, h1]
  exact h
theorem PM_fs (hs : 0 < s) (hq : PM I s q) (s1 : ∀ k, 0 < k → I2 47 k = I 47 k ∧ I2 48 k = I 48 k) (s2 : ∀ k, 7 ≤ k → I2 49 k = I 49 k ∧ I2 50 k = I 50 k ∧ I2 51 k = I 51 k) (s3 : ∀ k, 6 ≤ k → I2 52 k = I 52 k) : PM I2 s q := by
  obtain ⟨q1, q2, q3, q4⟩ := hq
  refine ⟨by rw [(s1 s hs).1]; exact q1, by rw [(s1 s hs).2]; exact q2, fun k hk => ?_, fun i hi => by rw [s3 _ (by omega)]; exact q4 i hi⟩
  obtain ⟨g1, g2, g3⟩ := s2 (7 * s + k) (by omega)
  rw [g1, g2, g3]
  exact q3 k hk
theorem PH_fs {m : Nat} (h : PH m R p) (hp : R2 p = R p) : PH m R2 p := by
  unfold PH at h ⊢
  rw [hp]
  exact h
theorem GWord_fs (h : GWord e I L R nw tp td to2 wl) (hc : ∀ c, (9 ≤ c ∧ c ≤ 14) ∨ 71 ≤ c ∨ c = 53 ∨ c = 54 → I2 c = I c) (h22 : I2 33 22 = I 33 22) (s1 : ∀ k, 0 < k → I2 47 k = I 47 k ∧ I2 48 k = I 48 k) (s2 : ∀ k, 7 ≤ k → I2 49 k = I 49 k ∧ I2 50 k = I 50 k ∧ I2 51 k = I 51 k) (s3 : ∀ k, 6 ≤ k → I2 52 k = I 52 k) (hL : ∀ c, c ≠ 33 → L2 c = L c) (hR : ∀ c, c ≠ 23 → R2 c = R c) : GWord e I2 L2 R2 nw tp td to2 wl := by
  obtain ⟨w1, w2, w3, w4, w5, w6, w7⟩ := h
  refine ⟨w1, w2, by rw [hc 9 (by omega)]; exact w3, by rw [h22]; exact w4, fun k hk => ?_, fun k hk => ?_, fun k hk => by rw [hL 45 (by decide)]; exact w7 k hk⟩
  · obtain ⟨a1, a2, a3, a4, a5, a6, a7, a8, a9, a10, a11, a12⟩ := w5 k hk
    refine ⟨by rw [hR 12 (by decide)]; exact a1, PH_fs a2 (hR _ (by omega)), PX_fr a3 (fun c h1 h2 => hc c (by omega)), PM_fs (by omega) a4 s1 s2 s3, a5, a6, a7, ?_, ?_, ?_, ?_, a12⟩
    · rw [hc 14 (by omega)]; exact a8
    · rw [hc 54 (by omega)]; exact a9
    · rw [hc 13 (by omega)]; exact a10
    · rw [hc 53 (by omega)]; exact a11
  · rw [hc 11 (by omega), hc 10 (by omega), hL 46 (by decide)]; exact w6 k hk
/-- a saying that was heard is at hand -/
theorem GHand_say (hS : SE nw s3) (hX : CX I1 a s3) (hc : ∀ c, 17 < c → c < 26 → I2 c = I1 c) (h17 : ∀ k, k ≠ 8 → I2 17 k = I1 17 k) (h178 : I2 17 8 = 1) (h31 : I2 33 31 = 1) (hB : MB I2 s3) (h35 : I2 33 35 = nI s3.2.2.length) (h55 : RX I2 55 (enM s3.2.1.1.2) s3.2.2) (ha : a = 24 ∨ a = 25) (hln : I2 15 9 = oX ln) (hln2 : I2 33 46 = oM ln) (hwon : won nw ln) (hH : I2 1 7 = ff (fun i => I2 5 i = 17) 0 T) (hnw : nw ≤ 8) (h6 : s3.1.2.1 = 6 → ∃ w : List Nat, okW w ∧ I2 17 3 = nI w.length ∧ (∀ i c, w[i]? = some c → I2 26 i = nI c) ∧ L2 33 38 = Int64.ofNat (kyN w)) : GHand I2 L2 a T nw ln := by
  obtain ⟨⟨md, fm, dn⟩, ⟨⟨P, O⟩, K, Lk, Nn, Rl⟩, W⟩ := s3
  obtain ⟨hW, hmd, hpl⟩ := hS
  obtain ⟨⟨a1, a2, a3, a4⟩, hP7, hl⟩ := SW_a hW
  obtain ⟨hCB, -, hv⟩ := hX
  obtain ⟨⟨x1, x2, x3⟩, ⟨x4, x5, x6, x7⟩, ⟨x8, x9, x10⟩⟩ := hCB
  obtain ⟨⟨m1, m2⟩, ⟨m4, m5, m6, m7⟩, m8⟩ := hB
  obtain ⟨-, ⟨-, -, b3, b4⟩, ⟨-, c2, -, -, -⟩, ⟨d1, -, d3, d4, d5⟩, e1, e2, -, e4, e5⟩ := hW
  have hPO : P = O + 1 ∨ (P = 0 ∧ O = 0) := by
    rcases hmd with h | h
    · exact Or.inl (b3 (Or.inr (Or.inr h)))
    · rcases b4 h with ⟨-, g1, g2⟩ | ⟨-, -, g⟩
      · exact Or.inr ⟨g1, g2⟩
      · exact Or.inl g
  have hf2 : fm = 2 → P = 0 := by
    intro h
    rcases b4 (c2 h) with ⟨-, g1, -⟩ | ⟨g, -, -⟩
    · exact g1
    · omega
  have hfn : fm ≠ 2 → 0 < P := by
    intro h
    rcases hmd with g | g
    · have := b3 (Or.inr (Or.inr g)); omega
    · rcases b4 g with ⟨g1, -, -⟩ | ⟨-, -, g1⟩
      · exact absurd g1 h
      · omega
  have hvv : I1 17 4 = nI (vbX fm) := by
    rw [hv]
    show vbS md fm = nI (vbX fm)
    unfold vbS
    rw [if_neg (by omega), if_neg (by omega)]
  have hNn : ∀ k, k < P → (K k < 2 → Nn k = none) ∧ (2 ≤ K k → ∃ c, Nn k = some c ∧ (c < 5 ∨ (29 ≤ c ∧ c < 29 + nw))) := fun k hk => d3 k hk (Or.inr (by omega))
  have h7c : md = 7 → fm = 2 ∨ (fm = 0 ∧ dn = true) := by
    intro g
    rcases b4 g with ⟨g1, -, -⟩ | ⟨g1, g2, -⟩
    · exact Or.inl g1
    · exact Or.inr ⟨g1, g2⟩
  clear b3 b4 c2 hv d3
  have hwq : wfq nw ((P, O), K, Lk, fun k => (Nn k).getD 0, Rl) := by
    refine ⟨hP7, hPO, fun k hk => ⟨d1 k hk, fun h2 => ?_⟩, d4⟩
    obtain ⟨c, c1, c2⟩ := (hNn k hk).2 h2
    show (Nn k).getD 0 < 5 ∨ (29 ≤ (Nn k).getD 0 ∧ (Nn k).getD 0 < 29 + nw)
    rw [c1]
    exact c2
  have hget : ∀ r, r < W.length → W[r]? = some (W.getD r (fun _ => 0)) ∧ W.getD r (fun _ => 0) ∈ W := by
    intro r hr
    have g1 : W[r]? = some W[r] := List.getElem?_eq_getElem hr
    have g2 : W.getD r (fun _ => 0) = W[r] := by rw [List.getD_eq_getElem?_getD, g1]; rfl
    rw [g2]
    exact ⟨g1, List.getElem_mem hr⟩
  have hwd : ∀ r, r < W.length → wfd ((P, O), K, Lk, fun k => (Nn k).getD 0, Rl) (W.getD r (fun _ => 0)) := by
    intro r hr i hi
    obtain ⟨v1, v2⟩ := e2 _ (hget r hr).2 i hi
    exact ⟨v1, fun k hk => (v2 k hk).2⟩
  have hz : ∀ d : Nat → Nat, syO d O 0 = false → ∃ i, i < O ∧ d i = 0 := by
    intro d hd
    apply Classical.byContradiction
    intro hh
    have := syO_0 (dg := d) (O := O) |>.mpr (fun i hi h0 => hh ⟨i, hi, h0⟩)
    rw [this] at hd
    cases hd
  refine Or.inr ⟨((P, O), K, Lk, fun k => (Nn k).getD 0, Rl), W.length, fun r => W.getD r (fun _ => 0), fm, dn, ⟨⟨⟨?_, ?_, fun k hk => ⟨?_, ?_, fun j hj => ?_⟩, fun i hi => ?_⟩, ?_, hl, ?_, fun r hr => ⟨?_, hwd r hr⟩, hln, hwon, hwq, ?_, ?_, ha, hH⟩, ⟨⟨m4, m5, fun k hk => ⟨?_, ?_, fun j hj => ?_⟩, fun i hi => ?_⟩, h35, hl, fun r hr => ⟨?_, hwd r hr⟩, hln2, hwon, hwq⟩, m1, ⟨a3, hfn, hf2, fun h => d5 h (hfn (by omega)), fun h r hr => ?_, fun h r hr i hi => ?_, fun h r hr i hi h0 => e5 h _ (hget r hr).2 i hi h0⟩, h178, h31⟩, ?_, e1, h6⟩
  · rw [hc 18 (by decide) (by decide)]; exact x4
  · rw [hc 18 (by decide) (by decide)]; exact x5
  · rw [hc 19 (by decide) (by decide)]; exact (x6 k hk).1
  · rw [hc 21 (by decide) (by decide), (x6 k hk).2.1]
    show oX (Nn k) = if K k < 2 then -1 else nI ((Nn k).getD 0)
    by_cases g : K k < 2
    · rw [if_pos g, (hNn k hk).1 g]; rfl
    · obtain ⟨c, c1, -⟩ := (hNn k hk).2 (by omega)
      rw [if_neg g, c1]; rfl
  · rw [hc 20 (by decide) (by decide)]; exact (x6 k hk).2.2 j hj
  · rw [hc 22 (by decide) (by decide)]; exact x7 i hi
  · rw [hc 23 (by decide) (by decide)]; exact x8
  · rw [hc 23 (by decide) (by decide)]; exact x9
  · rw [hc a (by omega) (by omega), x10 r _ (hget r hr).1]
    exact enX_DX a4 (syV_16 (e2 _ (hget r hr).2) a4)
  · rw [h17 4 (by decide)]; exact hvv
  · rw [h17 7 (by decide)]; exact x2
  · rw [Nat.mul_zero, Nat.zero_add]; exact (m6 k hk).1
  · rw [Nat.mul_zero, Nat.zero_add, (m6 k hk).2.1]
    show oM (Nn k) = if K k < 2 then -1 else nI (rwd ((Nn k).getD 0))
    by_cases g : K k < 2
    · rw [if_pos g, (hNn k hk).1 g]; rfl
    · obtain ⟨c, c1, -⟩ := (hNn k hk).2 (by omega)
      rw [if_neg g, c1]; rfl
  · rw [Nat.mul_zero, Nat.zero_add]; exact (m6 k hk).2.2 j hj
  · rw [Nat.mul_zero, Nat.zero_add]; exact m7 i hi
  · rw [h55 r _ (hget r hr).1]
    exact enM_DM a4 (fun i hi => by
      have h1 := (e2 _ (hget r hr).2 i hi).1
      have h2 : i < O := hi
      omega)
  · have h6' : md = 6 := by
      rcases hmd with g | g
      · exact g
      · exfalso
        rcases h7c g with g1 | ⟨g1, g2⟩
        · rcases h with ⟨h3, -⟩ | h3
          · rw [g1] at h3; cases h3
          · rw [g1] at h3; cases h3
        · rcases h with ⟨-, h3⟩ | h3
          · rw [g2] at h3; cases h3
          · rw [g1] at h3; cases h3
    have hff : fm = 0 ∨ fm = 3 := by
      rcases h with ⟨h3, -⟩ | h3
      · exact Or.inl h3
      · exact Or.inr h3
    exact hz _ (hpl h6' hff _ (hget r hr).2)
  · refine e4 ?_ _ (hget r hr).2 i hi
    cases dn with
    | true => exact Or.inr rfl
    | false =>
      refine Or.inl (fun g => h ?_)
      rcases g with g | g
      · exact Or.inl ⟨g, rfl⟩
      · exact Or.inr g
  · rw [h17 6 (by decide)]; exact x1
theorem lp_say (h : INVx e I L R a b) : LPr e I L R mX9_say mX10_say [.ref 0, .int x, .float 0] [.ref 33, .int x, .float 0] := by
  have h0 := h
  obtain ⟨hR, hab, T, E, N, S, M, nw, tp, td, to2, wl, ln, g1, g2, g3, g4, g5, g6⟩ := h
  obtain ⟨t1, t2, t3, t4⟩ := g2
  have ha : a = 24 ∨ a = 25 := by omega
  have hb : b = 24 ∨ b = 25 := by omega
  have hne : a ≠ b := by omega
  by_cases hx : x < 1 ∨ 100 < x ∨ ¬ x ≤ nI N
  · exact LPr_same h0 (x_say_no hR t2 t1 hx) (m_say_no hR t3 t1 hx)
  · obtain ⟨n, hn0, hn1, hnN, rfl⟩ : ∃ n, 0 < n ∧ n ≤ 100 ∧ n ≤ N ∧ x = nI n := by
      have e1 : ¬ x < 1 := fun h => hx (Or.inl h)
      have e2 : ¬ 100 < x := fun h => hx (Or.inr (Or.inl h))
      have e3 : x ≤ nI N := Classical.byContradiction (fun h => hx (Or.inr (Or.inr h)))
      have c1 : (1 : Int32).toInt = 1 := by decide
      have c100 : (100 : Int32).toInt = 100 := by decide
      rw [Int32.lt_iff_toInt_lt, c1] at e1
      rw [Int32.lt_iff_toInt_lt, c100] at e2
      rw [Int32.le_iff_toInt_le, nI_toInt (by omega)] at e3
      refine ⟨x.toInt.toNat, by omega, by omega, by omega, ?_⟩
      apply Int32.toInt_inj.mp
      rw [nI_toInt (by omega)]
      omega
    have hTX : TX I N (fun k => (I 8 k).toNatClampNeg) := by
      refine ⟨t1, t2, fun k hk => ?_, fun k hk => ?_⟩
      · obtain ⟨-, v, v1, v2⟩ := t4 k hk
        show I 8 k = nI (I 8 k).toNatClampNeg
        rw [v2, nI_cl (by omega)]
      · obtain ⟨-, v, v1, v2⟩ := t4 k hk
        show (I 8 k).toNatClampNeg < 256
        rw [v2, nI_cl (by omega)]
        exact v1
    have hWX : WX I nw wl := ⟨g4.2.1, g4.2.2.1, fun k hk => by
      obtain ⟨w1, w2, w3, -⟩ := g4.2.2.2.2.2.1 k hk
      exact ⟨w1, w2, w3⟩⟩
    generalize ht : (fun k => (I 8 k).toNatClampNeg) = t at *
    obtain ⟨IA, RA, a2, b2, k1, k2, k3, k4, k5, k6, k7⟩ := x_hear (e := e) (L := L) hR ha hb hne hTX hWX hn0 hnN
    have hxs := x_say hR k3 hn0 hn1 t2 t1 hnN k1
    have fA : ∀ c, c ≠ 7 → c < 17 ∨ 26 < c → (rt_up IA 7 1 0) c = I c := fun c h1 h2 => by rw [rt_up_f h1, k2 c h2]
    have hTM : TM (rt_up (rt_up IA 7 1 0) 33 14 (nI n)) n t := by
      refine ⟨hn1, rt_up_eq, fun k hk => ?_, fun k hk => hTX.2.2.2 k (by omega)⟩
      rw [rt_up_n1 (by decide), fA 44 (by decide) (by decide), (t4 k (by omega)).1, hTX.2.2.1 k (by omega)]
      rfl
    have hWM : WM (rt_up IA 7 1 0) L nw wl := by
      refine ⟨g4.2.1, by rw [fA 33 (by decide) (by decide)]; exact g4.2.2.2.1, fun k hk => ?_, g4.2.2.2.2.2.2⟩
      obtain ⟨w1, -, -, w4⟩ := g4.2.2.2.2.2.1 k hk
      exact ⟨w1, w4⟩
    obtain ⟨I2, L2, m1, m2, m3, m4, m5, m6⟩ := m_say (e := e) (N := N) k3 hn0 hn1 (by rw [fA 33 (by decide) (by decide)]; exact t3) t1 hnN hTM hWM
    refine ⟨_, _, _, hxs, m1, e, I2, L2, RA, a2, b2, rfl, k3, by omega, T, E, 0, S, M, nw, tp, td, to2, wl, ln, ?_, ?_, ?_, ?_, ?_, ?_⟩
    · exact GRoom_fr g1 (fun c hc => by rw [m2.1 c (by omega) (by omega), fA c (by omega) (by omega)]) (by rw [m2.2.1 0 (by omega), fA 33 (by decide) (by decide)]) (by rw [m2.2.1 1 (by omega), fA 33 (by decide) (by decide)])
    · exact ⟨by decide, by rw [m2.1 7 (by decide) (by decide), rt_up_eq]; rfl, m4, fun k hk => absurd hk (by omega)⟩
    · exact GMem_fr g3 (by rw [m2.1 15 (by decide) (by decide), fA 15 (by decide) (by decide)]) (by rw [m2.1 16 (by decide) (by decide), fA 16 (by decide) (by decide)]) (by rw [m2.1 62 (by decide) (by decide), fA 62 (by decide) (by decide)]) (by rw [m2.1 69 (by decide) (by decide), fA 69 (by decide) (by decide)]) (by rw [m2.1 70 (by decide) (by decide), fA 70 (by decide) (by decide)]) (fun k hk => by rw [m2.2.1 k (by omega), fA 33 (by decide) (by decide)])
    · refine GWord_fs g4 (fun c hc => by rw [m2.1 c (by omega) (by omega), fA c (by omega) (by omega)]) (by rw [m2.2.1 22 (by omega), fA 33 (by decide) (by decide)]) (fun k hk => ?_) (fun k hk => ?_) (fun k hk => by rw [m2.2.2.2.2 k hk, fA 52 (by decide) (by decide)]) m3 k4
      · obtain ⟨y1, y2⟩ := m2.2.2.1 k hk
        rw [y1, y2, fA 47 (by decide) (by decide), fA 48 (by decide) (by decide)]
        exact ⟨rfl, rfl⟩
      · obtain ⟨y1, y2, y3⟩ := m2.2.2.2.1 k hk
        rw [y1, y2, y3, fA 49 (by decide) (by decide), fA 50 (by decide) (by decide), fA 51 (by decide) (by decide)]
        exact ⟨rfl, rfl, rfl⟩
    · exact GLast_fr g5 (by rw [m2.1 15 (by decide) (by decide), fA 15 (by decide) (by decide)]) (by rw [m2.2.1 46 (by omega), fA 33 (by decide) (by decide)])
    · have f17 : ∀ c, 17 ≤ c → c ≤ 26 → I2 c = IA c := fun c h1 h2 => by rw [m2.1 c (by omega) (by omega), rt_up_f (by omega)]
      cases hp : pall wl nw t n with
      | inl v =>
        refine Or.inl ⟨?_, m5 v hp⟩
        rw [f17 17 (by decide) (by decide)]
        exact k6 v hp
      | inr s3 =>
        obtain ⟨I1, i1, i2, i3⟩ := k7 s3 hp
        obtain ⟨j1, j2, j3, j4, j5⟩ := m6 s3 hp
        obtain ⟨hSE, -⟩ := pall_SE hp
        have fI : ∀ c, 17 < c → c ≤ 26 → I2 c = I1 c := fun c h1 h2 => by rw [f17 c (by omega) h2, i1, rt_up_f (by omega)]
        refine GHand_say hSE i2 (fun c h1 h2 => fI c h1 (by omega)) (fun k hk => by rw [f17 17 (by decide) (by decide), i1, rt_up_n2 hk]) (by rw [f17 17 (by decide) (by decide), i1, rt_up_eq]) j1 j2 j3 j4 (by omega) ?_ ?_ g5.2.2 ?_ g4.2.1 (fun h6 => ?_)
        · rw [m2.1 15 (by decide) (by decide), fA 15 (by decide) (by decide)]; exact g5.1
        · rw [m2.2.1 46 (by omega), fA 33 (by decide) (by decide)]; exact g5.2.1
        · rw [m2.1 1 (by decide) (by decide), m2.1 5 (by decide) (by decide), fA 1 (by decide) (by decide), fA 5 (by decide) (by decide)]
          exact g1.2.2.2.2.2.2.2.1
        · obtain ⟨⟨w1, w2⟩, w3⟩ := i3 h6
          obtain ⟨-, -, l3, -⟩ := lend_all (t := t) (n := n) (p := 0) (by omega)
          refine ⟨txt t 0 (lend t n 0), ⟨by rw [txt_len]; omega, by rw [txt_len]; omega, txt_ltr l3⟩, ?_, fun i c hic => ?_, j5 h6⟩
          · rw [f17 17 (by decide) (by decide), i1, rt_up_n2 (by decide), txt_len, Nat.sub_zero]; exact w1
          · rw [txt_get] at hic
            by_cases hi : i < lend t n 0 - 0
            · rw [if_pos hi, Option.some.injEq, Nat.zero_add] at hic
              rw [fI 26 (by decide) (by decide), w2 i (by omega), hic]
            · rw [if_neg hi] at hic; cases hic
end P73

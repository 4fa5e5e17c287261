/-! what the tables say, and the rows of the heap -/
theorem rt_inr {ws : List Cond} (ps : List Nat) (hp : ws = ps.filterMap (fun i => lw_tbl[i]?)) (h : ws.all goodWord = true) : ∀ w ∈ ws, w ∈ rt_tt := by
  intro w hw
  have h1 := List.all_eq_true.mp h w hw
  rw [hp] at hw
  obtain ⟨i, -, hi⟩ := List.mem_filterMap.mp hw
  exact List.mem_filter.mpr ⟨List.mem_of_getElem? hi, h1⟩
theorem rt_inAt {w : Cond} {i : Nat} (hi : lw_tbl[i]? = some w) (h : goodWord w = true) : w ∈ rt_tt := List.mem_filter.mpr ⟨List.mem_of_getElem? hi, h⟩
set_option maxRecDepth 20000 in
theorem rt_inX0 : ∀ w ∈ u_ws RX0 TX0 10, w ∈ rt_tt := rt_inr [198, 200, 202, 204, 206, 208, 210, 212, 214, 216] (by decide +kernel) (by decide +kernel)
set_option maxRecDepth 20000 in
theorem rt_inX1 : ∀ w ∈ u_ws RX1 TX1 6, w ∈ rt_tt := rt_inr [237, 239, 241, 243, 245, 247] (by decide +kernel) (by decide +kernel)
set_option maxRecDepth 20000 in
theorem rt_inX2 : ∀ w ∈ u_ws RX2 TX2 4, w ∈ rt_tt := rt_inr [260, 262, 264, 266] (by decide +kernel) (by decide +kernel)
set_option maxRecDepth 20000 in
theorem rt_inX3 : ∀ w ∈ u_ws RX3 TX3 8, w ∈ rt_tt := rt_inr [124, 126, 128, 130, 132, 134, 136, 138] (by decide +kernel) (by decide +kernel)
set_option maxRecDepth 20000 in
theorem rt_inX4 : ∀ w ∈ u_ws RX4 TX4 9, w ∈ rt_tt := rt_inr [284, 286, 288, 290, 292, 294, 296, 298, 300] (by decide +kernel) (by decide +kernel)
set_option maxRecDepth 20000 in
theorem rt_inX5 : ∀ w ∈ u_ws RX5 TX5 10, w ∈ rt_tt := rt_inr [319, 321, 323, 325, 327, 329, 331, 333, 335, 337] (by decide +kernel) (by decide +kernel)
set_option maxRecDepth 20000 in
theorem rt_inX6 : ∀ w ∈ u_ws RX6 TX6 2, w ∈ rt_tt := rt_inr [348, 350] (by decide +kernel) (by decide +kernel)
set_option maxRecDepth 20000 in
theorem rt_inX7 : ∀ w ∈ u_ws RX7 TX7 2, w ∈ rt_tt := rt_inr [150, 152] (by decide +kernel) (by decide +kernel)
set_option maxRecDepth 20000 in
theorem rt_inX8 : ∀ w ∈ u_ws RX8 TX8 6, w ∈ rt_tt := rt_inr [169, 171, 173, 175, 177, 179] (by decide +kernel) (by decide +kernel)
set_option maxRecDepth 20000 in
theorem rt_inX9 : ∀ w ∈ u_ws RX9 TX9 7, w ∈ rt_tt := rt_inr [360, 362, 364, 366, 368, 370, 372] (by decide +kernel) (by decide +kernel)
set_option maxRecDepth 20000 in
theorem rt_inX10 : ∀ w ∈ u_ws RX10 TX10 68, w ∈ rt_tt := rt_inr [1176, 1178, 1180, 1182, 1184, 1186, 1188, 1190, 1192, 1194, 1196, 1198, 1200, 1202, 1204, 1206, 1208, 1210, 1212, 1214, 1216, 1218, 1220, 1222, 1224, 1226, 1228, 1230, 1232, 1234, 1236, 1238, 1240, 1242, 1244, 1246, 1248, 1250, 1252, 1254, 1256, 1258, 1260, 1262, 1264, 1266, 1268, 1270, 1272, 1274, 1276, 1278, 1280, 1282, 1284, 1286, 1288, 1290, 1292, 1294, 1296, 1298, 1300, 1302, 1304, 1306, 1308, 1310] (by decide +kernel) (by decide +kernel)
theorem rt_lt11 {P : Nat → Prop} (h0 : P 0) (h1 : P 1) (h2 : P 2) (h3 : P 3) (h4 : P 4) (h5 : P 5) (h6 : P 6) (h7 : P 7) (h8 : P 8) (h9 : P 9) (h10 : P 10) {i : Nat} (hi : i < 11) : P i := by
  match i, hi with
  | 0, _ => exact h0
  | 1, _ => exact h1
  | 2, _ => exact h2
  | 3, _ => exact h3
  | 4, _ => exact h4
  | 5, _ => exact h5
  | 6, _ => exact h6
  | 7, _ => exact h7
  | 8, _ => exact h8
  | 9, _ => exact h9
  | 10, _ => exact h10
theorem rt_clAt {ci : Nat} (h : ci < 11) : vwCl[ci]? = some (rt_cn ci, rt_tb ci, rt_nf ci) := rt_lt11 (P := fun ci => vwCl[ci]? = some (rt_cn ci, rt_tb ci, rt_nf ci)) rfl rfl rfl rfl rfl rfl rfl rfl rfl rfl rfl h
theorem rt_inAll {ci : Nat} (h : ci < 11) : ∀ w ∈ u_ws (rt_cn ci) (rt_tb ci) (rt_nf ci), w ∈ rt_tt := rt_lt11 (P := fun ci => ∀ w ∈ u_ws (rt_cn ci) (rt_tb ci) (rt_nf ci), w ∈ rt_tt) rt_inX0 rt_inX1 rt_inX2 rt_inX3 rt_inX4 rt_inX5 rt_inX6 rt_inX7 rt_inX8 rt_inX9 rt_inX10 h
theorem rt_tyAll {ci : Nat} (h : ci < 11) : ∀ k, k < rt_nf ci → parseFieldDescriptor (rt_tb ci k).2.2.1 = some (rt_ty ci k) := rt_lt11 (P := fun ci => ∀ k, k < rt_nf ci → parseFieldDescriptor (rt_tb ci k).2.2.1 = some (rt_ty ci k)) tyX0_ok tyX1_ok tyX2_ok tyX3_ok tyX4_ok tyX5_ok tyX6_ok tyX7_ok tyX8_ok tyX9_ok tyX10_ok h
theorem rt_nmAll {ci : Nat} (h : ci < 11) : ∀ a, a < rt_nf ci → ∀ b, b < rt_nf ci → a ≠ b → (rt_tb ci a).2.1 ≠ (rt_tb ci b).2.1 := rt_lt11 (P := fun ci => ∀ a, a < rt_nf ci → ∀ b, b < rt_nf ci → a ≠ b → (rt_tb ci a).2.1 ≠ (rt_tb ci b).2.1) nmX0 nmX1 nmX2 nmX3 nmX4 nmX5 nmX6 nmX7 nmX8 nmX9 nmX10 h
def rt_ftc (f : Nat) (ty : FieldType) : Bool := match f, ty with
  | 0, .int => true
  | 1, .boolean => true
  | 2, .long => true
  | 3, .array _ => true
  | 3, .object _ => true
  | _, _ => false
theorem rt_ftT : (List.range 11).all (fun ci => (List.range (rt_nf ci)).all (fun k => rt_ftc (rt_ft ci k) (rt_ty ci k) && (decide ((rt_tb ci k).1 = rt_cn ci) && decide ((rt_tb ci k).2.2.2 = rt_fin ci k)))) = true := by decide +kernel
theorem rt_ftAt {ci k : Nat} (h : ci < 11) (hk : k < rt_nf ci) : rt_ftc (rt_ft ci k) (rt_ty ci k) = true ∧ (rt_tb ci k).1 = rt_cn ci ∧ (rt_tb ci k).2.2.2 = rt_fin ci k := by
  have h1 := List.all_eq_true.mp rt_ftT ci (List.mem_range.mpr h)
  have h2 := List.all_eq_true.mp h1 k (List.mem_range.mpr hk)
  simpa [Bool.and_eq_true, decide_eq_true_eq] using h2
def rt_fdc (e : Nat × Nat × Nat × Nat × Nat × Nat) : Bool := match e with
  | (o, idx, ci, k, z, ps) => decide (ci < 11) && decide (k < rt_nf ci) && (if z = 0 then decide (lw_tbl[ps]? = some (.fieldLink (rt_cn o) idx (rt_tb ci k).1 (rt_tb ci k).2.1 (rt_tb ci k).2.2.1)) else decide (lw_tbl[ps]? = some (.fieldLinkNest (rt_cn o) idx (rt_tb ci k).1 (rt_tb ci k).2.1 (rt_tb ci k).2.2.1 "RoomTalk")))
set_option maxRecDepth 20000 in
theorem rt_fdT : rt_fdL.all rt_fdc = true := by decide +kernel
theorem rt_fdAt {o idx o' idx' ci k z ps : Nat} (e : rt_fd o idx = some (o', idx', ci, k, z, ps)) : ci < 11 ∧ k < rt_nf ci ∧ (z = 0 → (Cond.fieldLink (rt_cn o) idx (rt_tb ci k).1 (rt_tb ci k).2.1 (rt_tb ci k).2.2.1) ∈ rt_tt) ∧ (z ≠ 0 → (Cond.fieldLinkNest (rt_cn o) idx (rt_tb ci k).1 (rt_tb ci k).2.1 (rt_tb ci k).2.2.1 "RoomTalk") ∈ rt_nest) := by
  unfold rt_fd at e
  have h1 := List.mem_of_find?_eq_some e
  have h2 := List.find?_some e
  have h3 := List.all_eq_true.mp rt_fdT _ h1
  simp only [Bool.and_eq_true, beq_iff_eq] at h2
  obtain ⟨rfl, rfl⟩ := h2
  simp only [rt_fdc, Bool.and_eq_true, decide_eq_true_eq] at h3
  refine ⟨h3.1.1, h3.1.2, fun hz => ?_, fun hz => ?_⟩
  · have h4 := h3.2
    rw [if_pos hz] at h4
    exact rt_inAt (of_decide_eq_true h4) rfl
  · have h4 := h3.2
    rw [if_neg hz] at h4
    exact List.mem_filter.mpr ⟨List.mem_of_getElem? (of_decide_eq_true h4), rfl⟩
theorem rt_obAt {n i ci : Nat} (h : rt_ob n i ci = true) : i < n ∧ rt_kd i = (0, ci) := by
  simpa [rt_ob, Bool.and_eq_true, decide_eq_true_eq] using h
theorem rt_arAt {n a ty : Nat} (h : rt_ar n a ty = true) : a < n ∧ (rt_kd a).1 = ty := by
  simpa [rt_ar, Bool.and_eq_true, decide_eq_true_eq] using h
theorem rt_inIn {x : Int32} {n : Nat} (h : rt_in x n = true) : vp_in x n := by
  simp only [rt_in, Bool.and_eq_true, decide_eq_true_eq] at h
  intro hq
  rcases hq with hq | hq
  · exact absurd hq (by rw [Int32.not_lt]; exact h.1)
  · omega
theorem rt_enO {b0 : Nat} {cs : Nat → ClassId} {kd : Nat × Nat} {fi : Nat → Int32} {fl : Nat → Int64} {fr : Nat → Option Nat} {ci : Nat} (h : kd = (0, ci)) : rt_en b0 cs kd fi fl fr = .inr (ci, rt_fs b0 fi fl fr ci) := by subst h; rfl
theorem rt_en1 {b0 : Nat} {cs : Nat → ClassId} {kd : Nat × Nat} {fi : Nat → Int32} {fl : Nat → Int64} {fr : Nat → Option Nat} (h : kd.1 = 1) : rt_en b0 cs kd fi fl fr = .inl (cs 1, kd.2, .inl fi) := by obtain ⟨a, b⟩ := kd; cases h; rfl
theorem rt_en2 {b0 : Nat} {cs : Nat → ClassId} {kd : Nat × Nat} {fi : Nat → Int32} {fl : Nat → Int64} {fr : Nat → Option Nat} (h : kd.1 = 2) : rt_en b0 cs kd fi fl fr = .inl (cs 2, kd.2, .inl fi) := by obtain ⟨a, b⟩ := kd; cases h; rfl
theorem rt_en3 {b0 : Nat} {cs : Nat → ClassId} {kd : Nat × Nat} {fi : Nat → Int32} {fl : Nat → Int64} {fr : Nat → Option Nat} (h : kd.1 = 3) : rt_en b0 cs kd fi fl fr = .inl (cs 3, kd.2, .inl fi) := by obtain ⟨a, b⟩ := kd; cases h; rfl
theorem rt_en4 {b0 : Nat} {cs : Nat → ClassId} {kd : Nat × Nat} {fi : Nat → Int32} {fl : Nat → Int64} {fr : Nat → Option Nat} (h : kd.1 = 4) : rt_en b0 cs kd fi fl fr = .inl (cs 4, kd.2, .inr (.inl fl)) := by obtain ⟨a, b⟩ := kd; cases h; rfl
theorem rt_en5 {b0 : Nat} {cs : Nat → ClassId} {kd : Nat × Nat} {fi : Nat → Int32} {fl : Nat → Int64} {fr : Nat → Option Nat} (h : kd.1 = 5) : rt_en b0 cs kd fi fl fr = .inl (cs 5, kd.2, .inr (.inr (.inr (.inr (fun k => (fr k).map (b0 + ·)))))) := by obtain ⟨a, b⟩ := kd; cases h; rfl

section LWC
variable {p : Program} {l : Launch} {e : Env} {s : State} {mid : MethodId} {below : List Frame} {meth : Method} {c : Code} {b Ls : Nat} {xs : Nat → Int32} {D : va_G} {cs : Nat → ClassId} {sA : Nat → Nat} {Zs : State → Prop} {INV : rt_H → Prop}
theorem lw_case_0 (C : lw_C p s mid meth c b Ls xs D cs Zs) (hZ : rt_Zok s.heap.size sA Zs) (hsz : ∀ h, INV h → 71 ≤ h.1 ∧ h.1 ≤ 111) (hst : ∀ as : List Value, as.length = 3 → as.all rt_isI = true → lw_pair INV mX9_thing mX10_thing as) {i : Nat} (hi : i + 6 ≤ Ls) (hL : Ls ≤ 3072) {h : rt_H} (hI : INV h) {H : Heap} {locs : List Loc} {ca : Array Slot} (hP : va_P D vwCl (rt_wd s.heap.size cs h) H) (hS : va_S (fun q => s.heap.size ≤ q) s.heap H locs) (hl : lv_has ca 4 [(0, .ref b), (1, .ref (s.heap.size + 0)), (2, .ref (s.heap.size + 33)), (3, .int (nI i))])
    (kk : ∀ (h2 : rt_H) (H1 : Heap) (locs1 : List Loc), INV h2 → va_P D vwCl (rt_wd s.heap.size cs h2) H1 → va_S (fun q => s.heap.size ≤ q) s.heap H1 locs1 → lw_W p l e s mid b below meth c H1 locs1 h2 (F0 mid 786 ca [])) : lw_W p l e s mid b below meth c H locs h (F0 mid 144 ca []) := by
  obtain ⟨⟨hx, hb, hr, hml, hown, hts, hX, hbl, hlocks, hgv⟩, hK, hN, hz⟩ := id C
  have hbA : ¬ (fun q : Nat => s.heap.size ≤ q) b := Nat.not_le.mpr hbl
  obtain ⟨v, h1, h2, e1, e2, hI2⟩ := hst [.int (xs (i + 1)), .int (xs (i + 2)), .int (xs (i + 3))] rfl rfl h hI
  have s0 := hsz h hI
  have s2 := hsz h2 hI2
  have n1 := Ev_n e1
  have n2 := Ev_n e2
  have v1 : vp_in (nI i + 1) Ls := lw_in (k := 1) (by decide) hi hL
  have x1 : xs (nI i + 1).toNatClampNeg = xs (i + 1) := lw_xs (k := 1) (by decide) hi hL
  have v2 : vp_in (nI i + 2) Ls := lw_in (k := 2) (by decide) hi hL
  have x2 : xs (nI i + 2).toNatClampNeg = xs (i + 2) := lw_xs (k := 2) (by decide) hi hL
  have v3 : vp_in (nI i + 3) Ls := lw_in (k := 3) (by decide) hi hL
  have x3 : xs (nI i + 3).toNatClampNeg = xs (i + 3) := lw_xs (k := 3) (by decide) hi hL
  refine lv_aload_n hx hb dL_law_144 rfl (lv_at hl 1 rfl) ?_
  refine lv_aload_n hx hb dL_law_145 rfl (lv_at hl 0 rfl) ?_
  refine lv_iload_n hx hb dL_law_146 rfl (lv_at hl 3 rfl) ?_
  refine lv_iconst (v := 1) hx hb dL_law_147 (by decide) ?_
  refine lv_iadd hx hb dL_law_148 ?_
  refine va_sld hx hb hX hbl hbA hS v1 dL_law_149 ?_
  rw [x1]
  refine lv_aload_n hx hb dL_law_150 rfl (lv_at hl 0 rfl) ?_
  refine lv_iload_n hx hb dL_law_151 rfl (lv_at hl 3 rfl) ?_
  refine lv_iconst (v := 2) hx hb dL_law_152 (by decide) ?_
  refine lv_iadd hx hb dL_law_153 ?_
  refine va_sld hx hb hX hbl hbA hS v2 dL_law_154 ?_
  rw [x2]
  refine lv_aload_n hx hb dL_law_155 rfl (lv_at hl 0 rfl) ?_
  refine lv_iload_n hx hb dL_law_156 rfl (lv_at hl 3 rfl) ?_
  refine lv_iconst (v := 3) hx hb dL_law_157 (by decide) ?_
  refine lv_iadd hx hb dL_law_158 ?_
  refine va_sld hx hb hX hbl hbA hS v3 dL_law_159 ?_
  rw [x3]
  refine lw_callV (i := 0) (as := [.int (xs (i + 1)), .int (xs (i + 2)), .int (xs (i + 3))]) (rest := []) C hZ dL_law_160 (by decide) lw_v_X9_thing e1 (lw_ob0 s0.1) rfl rfl (by decide +kernel) rfl (Nat.le_of_ble_eq_true rfl) (by decide +kernel) (by decide +kernel) (by omega) hl.1 hP hS (fun H locs hP hS => ?_)
  refine lv_aload_n hx hb dL_law_163 rfl (lv_at hl 2 rfl) ?_
  refine lv_aload_n hx hb dL_law_164 rfl (lv_at hl 0 rfl) ?_
  refine lv_iload_n hx hb dL_law_165 rfl (lv_at hl 3 rfl) ?_
  refine lv_iconst (v := 1) hx hb dL_law_166 (by decide) ?_
  refine lv_iadd hx hb dL_law_167 ?_
  refine va_sld hx hb hX hbl hbA hS v1 dL_law_168 ?_
  rw [x1]
  refine lv_aload_n hx hb dL_law_169 rfl (lv_at hl 0 rfl) ?_
  refine lv_iload_n hx hb dL_law_170 rfl (lv_at hl 3 rfl) ?_
  refine lv_iconst (v := 2) hx hb dL_law_171 (by decide) ?_
  refine lv_iadd hx hb dL_law_172 ?_
  refine va_sld hx hb hX hbl hbA hS v2 dL_law_173 ?_
  rw [x2]
  refine lv_aload_n hx hb dL_law_174 rfl (lv_at hl 0 rfl) ?_
  refine lv_iload_n hx hb dL_law_175 rfl (lv_at hl 3 rfl) ?_
  refine lv_iconst (v := 3) hx hb dL_law_176 (by decide) ?_
  refine lv_iadd hx hb dL_law_177 ?_
  refine va_sld hx hb hX hbl hbA hS v3 dL_law_178 ?_
  rw [x3]
  refine lw_callV (i := 33) (as := [.int (xs (i + 1)), .int (xs (i + 2)), .int (xs (i + 3))]) (rest := [.int v]) C hZ dL_law_179 (by decide) lw_v_X10_thing e2 (lw_ob33 (by omega)) rfl rfl (by decide +kernel) rfl (Nat.le_of_ble_eq_true rfl) (by decide +kernel) (by decide +kernel) (by omega) hl.1 hP hS (fun H locs hP hS => ?_)
  refine lv_icmp_eq (tgt := 786) hx hb dL_law_182 (by decide) (fun _ => ?_) (fun q => absurd rfl q)
  exact kk h2 H locs hI2 hP hS
theorem lw_case_1 (C : lw_C p s mid meth c b Ls xs D cs Zs) (hZ : rt_Zok s.heap.size sA Zs) (hsz : ∀ h, INV h → 71 ≤ h.1 ∧ h.1 ≤ 111) (hst : ∀ as : List Value, as.length = 2 → as.all rt_isI = true → lw_pair INV mX9_act mX10_act as) {i : Nat} (hi : i + 6 ≤ Ls) (hL : Ls ≤ 3072) {h : rt_H} (hI : INV h) {H : Heap} {locs : List Loc} {ca : Array Slot} (hP : va_P D vwCl (rt_wd s.heap.size cs h) H) (hS : va_S (fun q => s.heap.size ≤ q) s.heap H locs) (hl : lv_has ca 4 [(0, .ref b), (1, .ref (s.heap.size + 0)), (2, .ref (s.heap.size + 33)), (3, .int (nI i))])
    (kk : ∀ (h2 : rt_H) (H1 : Heap) (locs1 : List Loc), INV h2 → va_P D vwCl (rt_wd s.heap.size cs h2) H1 → va_S (fun q => s.heap.size ≤ q) s.heap H1 locs1 → lw_W p l e s mid b below meth c H1 locs1 h2 (F0 mid 786 ca [])) : lw_W p l e s mid b below meth c H locs h (F0 mid 187 ca []) := by
  obtain ⟨⟨hx, hb, hr, hml, hown, hts, hX, hbl, hlocks, hgv⟩, hK, hN, hz⟩ := id C
  have hbA : ¬ (fun q : Nat => s.heap.size ≤ q) b := Nat.not_le.mpr hbl
  obtain ⟨v, h1, h2, e1, e2, hI2⟩ := hst [.int (xs (i + 1)), .int (xs (i + 2))] rfl rfl h hI
  have s0 := hsz h hI
  have s2 := hsz h2 hI2
  have n1 := Ev_n e1
  have n2 := Ev_n e2
  have v1 : vp_in (nI i + 1) Ls := lw_in (k := 1) (by decide) hi hL
  have x1 : xs (nI i + 1).toNatClampNeg = xs (i + 1) := lw_xs (k := 1) (by decide) hi hL
  have v2 : vp_in (nI i + 2) Ls := lw_in (k := 2) (by decide) hi hL
  have x2 : xs (nI i + 2).toNatClampNeg = xs (i + 2) := lw_xs (k := 2) (by decide) hi hL
  refine lv_aload_n hx hb dL_law_187 rfl (lv_at hl 1 rfl) ?_
  refine lv_aload_n hx hb dL_law_188 rfl (lv_at hl 0 rfl) ?_
  refine lv_iload_n hx hb dL_law_189 rfl (lv_at hl 3 rfl) ?_
  refine lv_iconst (v := 1) hx hb dL_law_190 (by decide) ?_
  refine lv_iadd hx hb dL_law_191 ?_
  refine va_sld hx hb hX hbl hbA hS v1 dL_law_192 ?_
  rw [x1]
  refine lv_aload_n hx hb dL_law_193 rfl (lv_at hl 0 rfl) ?_
  refine lv_iload_n hx hb dL_law_194 rfl (lv_at hl 3 rfl) ?_
  refine lv_iconst (v := 2) hx hb dL_law_195 (by decide) ?_
  refine lv_iadd hx hb dL_law_196 ?_
  refine va_sld hx hb hX hbl hbA hS v2 dL_law_197 ?_
  rw [x2]
  refine lw_callV (i := 0) (as := [.int (xs (i + 1)), .int (xs (i + 2))]) (rest := []) C hZ dL_law_198 (by decide) lw_v_X9_act e1 (lw_ob0 s0.1) rfl rfl (by decide +kernel) rfl (Nat.le_of_ble_eq_true rfl) (by decide +kernel) (by decide +kernel) (by omega) hl.1 hP hS (fun H locs hP hS => ?_)
  refine lv_aload_n hx hb dL_law_201 rfl (lv_at hl 2 rfl) ?_
  refine lv_aload_n hx hb dL_law_202 rfl (lv_at hl 0 rfl) ?_
  refine lv_iload_n hx hb dL_law_203 rfl (lv_at hl 3 rfl) ?_
  refine lv_iconst (v := 1) hx hb dL_law_204 (by decide) ?_
  refine lv_iadd hx hb dL_law_205 ?_
  refine va_sld hx hb hX hbl hbA hS v1 dL_law_206 ?_
  rw [x1]
  refine lv_aload_n hx hb dL_law_207 rfl (lv_at hl 0 rfl) ?_
  refine lv_iload_n hx hb dL_law_208 rfl (lv_at hl 3 rfl) ?_
  refine lv_iconst (v := 2) hx hb dL_law_209 (by decide) ?_
  refine lv_iadd hx hb dL_law_210 ?_
  refine va_sld hx hb hX hbl hbA hS v2 dL_law_211 ?_
  rw [x2]
  refine lw_callV (i := 33) (as := [.int (xs (i + 1)), .int (xs (i + 2))]) (rest := [.int v]) C hZ dL_law_212 (by decide) lw_v_X10_act e2 (lw_ob33 (by omega)) rfl rfl (by decide +kernel) rfl (Nat.le_of_ble_eq_true rfl) (by decide +kernel) (by decide +kernel) (by omega) hl.1 hP hS (fun H locs hP hS => ?_)
  refine lv_icmp_eq (tgt := 786) hx hb dL_law_215 (by decide) (fun _ => ?_) (fun q => absurd rfl q)
  exact kk h2 H locs hI2 hP hS
theorem lw_case_2 (C : lw_C p s mid meth c b Ls xs D cs Zs) (hZ : rt_Zok s.heap.size sA Zs) (hsz : ∀ h, INV h → 71 ≤ h.1 ∧ h.1 ≤ 111) (hst : ∀ as : List Value, as.length = 0 → as.all rt_isI = true → lw_pair INV mX9_undo mX10_undo as) {i : Nat} (hi : i + 6 ≤ Ls) (hL : Ls ≤ 3072) {h : rt_H} (hI : INV h) {H : Heap} {locs : List Loc} {ca : Array Slot} (hP : va_P D vwCl (rt_wd s.heap.size cs h) H) (hS : va_S (fun q => s.heap.size ≤ q) s.heap H locs) (hl : lv_has ca 4 [(0, .ref b), (1, .ref (s.heap.size + 0)), (2, .ref (s.heap.size + 33)), (3, .int (nI i))])
    (kk : ∀ (h2 : rt_H) (H1 : Heap) (locs1 : List Loc), INV h2 → va_P D vwCl (rt_wd s.heap.size cs h2) H1 → va_S (fun q => s.heap.size ≤ q) s.heap H1 locs1 → lw_W p l e s mid b below meth c H1 locs1 h2 (F0 mid 786 ca [])) : lw_W p l e s mid b below meth c H locs h (F0 mid 220 ca []) := by
  obtain ⟨⟨hx, hb, hr, hml, hown, hts, hX, hbl, hlocks, hgv⟩, hK, hN, hz⟩ := id C
  have hbA : ¬ (fun q : Nat => s.heap.size ≤ q) b := Nat.not_le.mpr hbl
  obtain ⟨v, h1, h2, e1, e2, hI2⟩ := hst [] rfl rfl h hI
  have s0 := hsz h hI
  have s2 := hsz h2 hI2
  have n1 := Ev_n e1
  have n2 := Ev_n e2
  refine lv_aload_n hx hb dL_law_220 rfl (lv_at hl 1 rfl) ?_
  refine lw_callV (i := 0) (as := []) (rest := []) C hZ dL_law_221 (by decide) lw_v_X9_undo e1 (lw_ob0 s0.1) rfl rfl (by decide +kernel) rfl (Nat.le_of_ble_eq_true rfl) (by decide +kernel) (by decide +kernel) (by omega) hl.1 hP hS (fun H locs hP hS => ?_)
  refine lv_aload_n hx hb dL_law_224 rfl (lv_at hl 2 rfl) ?_
  refine lw_callV (i := 33) (as := []) (rest := [.int v]) C hZ dL_law_225 (by decide) lw_v_X10_undo e2 (lw_ob33 (by omega)) rfl rfl (by decide +kernel) rfl (Nat.le_of_ble_eq_true rfl) (by decide +kernel) (by decide +kernel) (by omega) hl.1 hP hS (fun H locs hP hS => ?_)
  refine lv_icmp_eq (tgt := 786) hx hb dL_law_228 (by decide) (fun _ => ?_) (fun q => absurd rfl q)
  exact kk h2 H locs hI2 hP hS
theorem lw_case_3 (C : lw_C p s mid meth c b Ls xs D cs Zs) (hZ : rt_Zok s.heap.size sA Zs) (hsz : ∀ h, INV h → 71 ≤ h.1 ∧ h.1 ≤ 111) (hst : ∀ as : List Value, as.length = 1 → as.all rt_isI = true → lw_pair INV mX9_where mX10_where as) {i : Nat} (hi : i + 6 ≤ Ls) (hL : Ls ≤ 3072) {h : rt_H} (hI : INV h) {H : Heap} {locs : List Loc} {ca : Array Slot} (hP : va_P D vwCl (rt_wd s.heap.size cs h) H) (hS : va_S (fun q => s.heap.size ≤ q) s.heap H locs) (hl : lv_has ca 4 [(0, .ref b), (1, .ref (s.heap.size + 0)), (2, .ref (s.heap.size + 33)), (3, .int (nI i))])
    (kk : ∀ (h2 : rt_H) (H1 : Heap) (locs1 : List Loc), INV h2 → va_P D vwCl (rt_wd s.heap.size cs h2) H1 → va_S (fun q => s.heap.size ≤ q) s.heap H1 locs1 → lw_W p l e s mid b below meth c H1 locs1 h2 (F0 mid 786 ca [])) : lw_W p l e s mid b below meth c H locs h (F0 mid 233 ca []) := by
  obtain ⟨⟨hx, hb, hr, hml, hown, hts, hX, hbl, hlocks, hgv⟩, hK, hN, hz⟩ := id C
  have hbA : ¬ (fun q : Nat => s.heap.size ≤ q) b := Nat.not_le.mpr hbl
  obtain ⟨v, h1, h2, e1, e2, hI2⟩ := hst [.int (xs (i + 1))] rfl rfl h hI
  have s0 := hsz h hI
  have s2 := hsz h2 hI2
  have n1 := Ev_n e1
  have n2 := Ev_n e2
  have v1 : vp_in (nI i + 1) Ls := lw_in (k := 1) (by decide) hi hL
  have x1 : xs (nI i + 1).toNatClampNeg = xs (i + 1) := lw_xs (k := 1) (by decide) hi hL
  refine lv_aload_n hx hb dL_law_233 rfl (lv_at hl 1 rfl) ?_
  refine lv_aload_n hx hb dL_law_234 rfl (lv_at hl 0 rfl) ?_
  refine lv_iload_n hx hb dL_law_235 rfl (lv_at hl 3 rfl) ?_
  refine lv_iconst (v := 1) hx hb dL_law_236 (by decide) ?_
  refine lv_iadd hx hb dL_law_237 ?_
  refine va_sld hx hb hX hbl hbA hS v1 dL_law_238 ?_
  rw [x1]
  refine lw_callV (i := 0) (as := [.int (xs (i + 1))]) (rest := []) C hZ dL_law_239 (by decide) lw_v_X9_where e1 (lw_ob0 s0.1) rfl rfl (by decide +kernel) rfl (Nat.le_of_ble_eq_true rfl) (by decide +kernel) (by decide +kernel) (by omega) hl.1 hP hS (fun H locs hP hS => ?_)
  refine lv_aload_n hx hb dL_law_242 rfl (lv_at hl 2 rfl) ?_
  refine lv_aload_n hx hb dL_law_243 rfl (lv_at hl 0 rfl) ?_
  refine lv_iload_n hx hb dL_law_244 rfl (lv_at hl 3 rfl) ?_
  refine lv_iconst (v := 1) hx hb dL_law_245 (by decide) ?_
  refine lv_iadd hx hb dL_law_246 ?_
  refine va_sld hx hb hX hbl hbA hS v1 dL_law_247 ?_
  rw [x1]
  refine lw_callV (i := 33) (as := [.int (xs (i + 1))]) (rest := [.int v]) C hZ dL_law_248 (by decide) lw_v_X10_where e2 (lw_ob33 (by omega)) rfl rfl (by decide +kernel) rfl (Nat.le_of_ble_eq_true rfl) (by decide +kernel) (by decide +kernel) (by omega) hl.1 hP hS (fun H locs hP hS => ?_)
  refine lv_icmp_eq (tgt := 786) hx hb dL_law_251 (by decide) (fun _ => ?_) (fun q => absurd rfl q)
  exact kk h2 H locs hI2 hP hS
theorem lw_case_4 (C : lw_C p s mid meth c b Ls xs D cs Zs) (hZ : rt_Zok s.heap.size sA Zs) (hsz : ∀ h, INV h → 71 ≤ h.1 ∧ h.1 ≤ 111) (hst : ∀ as : List Value, as.length = 2 → as.all rt_isI = true → lw_pair INV mX9_over mX10_over as) {i : Nat} (hi : i + 6 ≤ Ls) (hL : Ls ≤ 3072) {h : rt_H} (hI : INV h) {H : Heap} {locs : List Loc} {ca : Array Slot} (hP : va_P D vwCl (rt_wd s.heap.size cs h) H) (hS : va_S (fun q => s.heap.size ≤ q) s.heap H locs) (hl : lv_has ca 4 [(0, .ref b), (1, .ref (s.heap.size + 0)), (2, .ref (s.heap.size + 33)), (3, .int (nI i))])
    (kk : ∀ (h2 : rt_H) (H1 : Heap) (locs1 : List Loc), INV h2 → va_P D vwCl (rt_wd s.heap.size cs h2) H1 → va_S (fun q => s.heap.size ≤ q) s.heap H1 locs1 → lw_W p l e s mid b below meth c H1 locs1 h2 (F0 mid 786 ca [])) : lw_W p l e s mid b below meth c H locs h (F0 mid 256 ca []) := by
  obtain ⟨⟨hx, hb, hr, hml, hown, hts, hX, hbl, hlocks, hgv⟩, hK, hN, hz⟩ := id C
  have hbA : ¬ (fun q : Nat => s.heap.size ≤ q) b := Nat.not_le.mpr hbl
  obtain ⟨v, h1, h2, e1, e2, hI2⟩ := hst [.int (xs (i + 1)), .int (xs (i + 2))] rfl rfl h hI
  have s0 := hsz h hI
  have s2 := hsz h2 hI2
  have n1 := Ev_n e1
  have n2 := Ev_n e2
  have v1 : vp_in (nI i + 1) Ls := lw_in (k := 1) (by decide) hi hL
  have x1 : xs (nI i + 1).toNatClampNeg = xs (i + 1) := lw_xs (k := 1) (by decide) hi hL
  have v2 : vp_in (nI i + 2) Ls := lw_in (k := 2) (by decide) hi hL
  have x2 : xs (nI i + 2).toNatClampNeg = xs (i + 2) := lw_xs (k := 2) (by decide) hi hL
  refine lv_aload_n hx hb dL_law_256 rfl (lv_at hl 1 rfl) ?_
  refine lv_aload_n hx hb dL_law_257 rfl (lv_at hl 0 rfl) ?_
  refine lv_iload_n hx hb dL_law_258 rfl (lv_at hl 3 rfl) ?_
  refine lv_iconst (v := 1) hx hb dL_law_259 (by decide) ?_
  refine lv_iadd hx hb dL_law_260 ?_
  refine va_sld hx hb hX hbl hbA hS v1 dL_law_261 ?_
  rw [x1]
  refine lv_aload_n hx hb dL_law_262 rfl (lv_at hl 0 rfl) ?_
  refine lv_iload_n hx hb dL_law_263 rfl (lv_at hl 3 rfl) ?_
  refine lv_iconst (v := 2) hx hb dL_law_264 (by decide) ?_
  refine lv_iadd hx hb dL_law_265 ?_
  refine va_sld hx hb hX hbl hbA hS v2 dL_law_266 ?_
  rw [x2]
  refine lw_callV (i := 0) (as := [.int (xs (i + 1)), .int (xs (i + 2))]) (rest := []) C hZ dL_law_267 (by decide) lw_v_X9_over e1 (lw_ob0 s0.1) rfl rfl (by decide +kernel) rfl (Nat.le_of_ble_eq_true rfl) (by decide +kernel) (by decide +kernel) (by omega) hl.1 hP hS (fun H locs hP hS => ?_)
  refine lv_aload_n hx hb dL_law_270 rfl (lv_at hl 2 rfl) ?_
  refine lv_aload_n hx hb dL_law_271 rfl (lv_at hl 0 rfl) ?_
  refine lv_iload_n hx hb dL_law_272 rfl (lv_at hl 3 rfl) ?_
  refine lv_iconst (v := 1) hx hb dL_law_273 (by decide) ?_
  refine lv_iadd hx hb dL_law_274 ?_
  refine va_sld hx hb hX hbl hbA hS v1 dL_law_275 ?_
  rw [x1]
  refine lv_aload_n hx hb dL_law_276 rfl (lv_at hl 0 rfl) ?_
  refine lv_iload_n hx hb dL_law_277 rfl (lv_at hl 3 rfl) ?_
  refine lv_iconst (v := 2) hx hb dL_law_278 (by decide) ?_
  refine lv_iadd hx hb dL_law_279 ?_
  refine va_sld hx hb hX hbl hbA hS v2 dL_law_280 ?_
  rw [x2]
  refine lw_callV (i := 33) (as := [.int (xs (i + 1)), .int (xs (i + 2))]) (rest := [.int v]) C hZ dL_law_281 (by decide) lw_v_X10_over e2 (lw_ob33 (by omega)) rfl rfl (by decide +kernel) rfl (Nat.le_of_ble_eq_true rfl) (by decide +kernel) (by decide +kernel) (by omega) hl.1 hP hS (fun H locs hP hS => ?_)
  refine lv_icmp_eq (tgt := 786) hx hb dL_law_284 (by decide) (fun _ => ?_) (fun q => absurd rfl q)
  exact kk h2 H locs hI2 hP hS
theorem lw_case_5 (C : lw_C p s mid meth c b Ls xs D cs Zs) (hZ : rt_Zok s.heap.size sA Zs) (hsz : ∀ h, INV h → 71 ≤ h.1 ∧ h.1 ≤ 111) (hst : ∀ as : List Value, as.length = 2 → as.all rt_isI = true → lw_pair INV mX9_was mX10_was as) {i : Nat} (hi : i + 6 ≤ Ls) (hL : Ls ≤ 3072) {h : rt_H} (hI : INV h) {H : Heap} {locs : List Loc} {ca : Array Slot} (hP : va_P D vwCl (rt_wd s.heap.size cs h) H) (hS : va_S (fun q => s.heap.size ≤ q) s.heap H locs) (hl : lv_has ca 4 [(0, .ref b), (1, .ref (s.heap.size + 0)), (2, .ref (s.heap.size + 33)), (3, .int (nI i))])
    (kk : ∀ (h2 : rt_H) (H1 : Heap) (locs1 : List Loc), INV h2 → va_P D vwCl (rt_wd s.heap.size cs h2) H1 → va_S (fun q => s.heap.size ≤ q) s.heap H1 locs1 → lw_W p l e s mid b below meth c H1 locs1 h2 (F0 mid 786 ca [])) : lw_W p l e s mid b below meth c H locs h (F0 mid 289 ca []) := by
  obtain ⟨⟨hx, hb, hr, hml, hown, hts, hX, hbl, hlocks, hgv⟩, hK, hN, hz⟩ := id C
  have hbA : ¬ (fun q : Nat => s.heap.size ≤ q) b := Nat.not_le.mpr hbl
  obtain ⟨v, h1, h2, e1, e2, hI2⟩ := hst [.int (xs (i + 1)), .int (xs (i + 2))] rfl rfl h hI
  have s0 := hsz h hI
  have s2 := hsz h2 hI2
  have n1 := Ev_n e1
  have n2 := Ev_n e2
  have v1 : vp_in (nI i + 1) Ls := lw_in (k := 1) (by decide) hi hL
  have x1 : xs (nI i + 1).toNatClampNeg = xs (i + 1) := lw_xs (k := 1) (by decide) hi hL
  have v2 : vp_in (nI i + 2) Ls := lw_in (k := 2) (by decide) hi hL
  have x2 : xs (nI i + 2).toNatClampNeg = xs (i + 2) := lw_xs (k := 2) (by decide) hi hL
  refine lv_aload_n hx hb dL_law_289 rfl (lv_at hl 1 rfl) ?_
  refine lv_aload_n hx hb dL_law_290 rfl (lv_at hl 0 rfl) ?_
  refine lv_iload_n hx hb dL_law_291 rfl (lv_at hl 3 rfl) ?_
  refine lv_iconst (v := 1) hx hb dL_law_292 (by decide) ?_
  refine lv_iadd hx hb dL_law_293 ?_
  refine va_sld hx hb hX hbl hbA hS v1 dL_law_294 ?_
  rw [x1]
  refine lv_aload_n hx hb dL_law_295 rfl (lv_at hl 0 rfl) ?_
  refine lv_iload_n hx hb dL_law_296 rfl (lv_at hl 3 rfl) ?_
  refine lv_iconst (v := 2) hx hb dL_law_297 (by decide) ?_
  refine lv_iadd hx hb dL_law_298 ?_
  refine va_sld hx hb hX hbl hbA hS v2 dL_law_299 ?_
  rw [x2]
  refine lw_callV (i := 0) (as := [.int (xs (i + 1)), .int (xs (i + 2))]) (rest := []) C hZ dL_law_300 (by decide) lw_v_X9_was e1 (lw_ob0 s0.1) rfl rfl (by decide +kernel) rfl (Nat.le_of_ble_eq_true rfl) (by decide +kernel) (by decide +kernel) (by omega) hl.1 hP hS (fun H locs hP hS => ?_)
  refine lv_aload_n hx hb dL_law_303 rfl (lv_at hl 2 rfl) ?_
  refine lv_aload_n hx hb dL_law_304 rfl (lv_at hl 0 rfl) ?_
  refine lv_iload_n hx hb dL_law_305 rfl (lv_at hl 3 rfl) ?_
  refine lv_iconst (v := 1) hx hb dL_law_306 (by decide) ?_
  refine lv_iadd hx hb dL_law_307 ?_
  refine va_sld hx hb hX hbl hbA hS v1 dL_law_308 ?_
  rw [x1]
  refine lv_aload_n hx hb dL_law_309 rfl (lv_at hl 0 rfl) ?_
  refine lv_iload_n hx hb dL_law_310 rfl (lv_at hl 3 rfl) ?_
  refine lv_iconst (v := 2) hx hb dL_law_311 (by decide) ?_
  refine lv_iadd hx hb dL_law_312 ?_
  refine va_sld hx hb hX hbl hbA hS v2 dL_law_313 ?_
  rw [x2]
  refine lw_callV (i := 33) (as := [.int (xs (i + 1)), .int (xs (i + 2))]) (rest := [.int v]) C hZ dL_law_314 (by decide) lw_v_X10_was e2 (lw_ob33 (by omega)) rfl rfl (by decide +kernel) rfl (Nat.le_of_ble_eq_true rfl) (by decide +kernel) (by decide +kernel) (by omega) hl.1 hP hS (fun H locs hP hS => ?_)
  refine lv_icmp_eq (tgt := 786) hx hb dL_law_317 (by decide) (fun _ => ?_) (fun q => absurd rfl q)
  exact kk h2 H locs hI2 hP hS
theorem lw_case_6 (C : lw_C p s mid meth c b Ls xs D cs Zs) (hZ : rt_Zok s.heap.size sA Zs) (hsz : ∀ h, INV h → 71 ≤ h.1 ∧ h.1 ≤ 111) (hst : ∀ as : List Value, as.length = 2 → as.all rt_isI = true → lw_pair INV mX9_event mX10_event as) {i : Nat} (hi : i + 6 ≤ Ls) (hL : Ls ≤ 3072) {h : rt_H} (hI : INV h) {H : Heap} {locs : List Loc} {ca : Array Slot} (hP : va_P D vwCl (rt_wd s.heap.size cs h) H) (hS : va_S (fun q => s.heap.size ≤ q) s.heap H locs) (hl : lv_has ca 4 [(0, .ref b), (1, .ref (s.heap.size + 0)), (2, .ref (s.heap.size + 33)), (3, .int (nI i))])
    (kk : ∀ (h2 : rt_H) (H1 : Heap) (locs1 : List Loc), INV h2 → va_P D vwCl (rt_wd s.heap.size cs h2) H1 → va_S (fun q => s.heap.size ≤ q) s.heap H1 locs1 → lw_W p l e s mid b below meth c H1 locs1 h2 (F0 mid 786 ca [])) : lw_W p l e s mid b below meth c H locs h (F0 mid 322 ca []) := by
  obtain ⟨⟨hx, hb, hr, hml, hown, hts, hX, hbl, hlocks, hgv⟩, hK, hN, hz⟩ := id C
  have hbA : ¬ (fun q : Nat => s.heap.size ≤ q) b := Nat.not_le.mpr hbl
  obtain ⟨v, h1, h2, e1, e2, hI2⟩ := hst [.int (xs (i + 1)), .int (xs (i + 2))] rfl rfl h hI
  have s0 := hsz h hI
  have s2 := hsz h2 hI2
  have n1 := Ev_n e1
  have n2 := Ev_n e2
  have v1 : vp_in (nI i + 1) Ls := lw_in (k := 1) (by decide) hi hL
  have x1 : xs (nI i + 1).toNatClampNeg = xs (i + 1) := lw_xs (k := 1) (by decide) hi hL
  have v2 : vp_in (nI i + 2) Ls := lw_in (k := 2) (by decide) hi hL
  have x2 : xs (nI i + 2).toNatClampNeg = xs (i + 2) := lw_xs (k := 2) (by decide) hi hL
  refine lv_aload_n hx hb dL_law_322 rfl (lv_at hl 1 rfl) ?_
  refine lv_aload_n hx hb dL_law_323 rfl (lv_at hl 0 rfl) ?_
  refine lv_iload_n hx hb dL_law_324 rfl (lv_at hl 3 rfl) ?_
  refine lv_iconst (v := 1) hx hb dL_law_325 (by decide) ?_
  refine lv_iadd hx hb dL_law_326 ?_
  refine va_sld hx hb hX hbl hbA hS v1 dL_law_327 ?_
  rw [x1]
  refine lv_aload_n hx hb dL_law_328 rfl (lv_at hl 0 rfl) ?_
  refine lv_iload_n hx hb dL_law_329 rfl (lv_at hl 3 rfl) ?_
  refine lv_iconst (v := 2) hx hb dL_law_330 (by decide) ?_
  refine lv_iadd hx hb dL_law_331 ?_
  refine va_sld hx hb hX hbl hbA hS v2 dL_law_332 ?_
  rw [x2]
  refine lw_callV (i := 0) (as := [.int (xs (i + 1)), .int (xs (i + 2))]) (rest := []) C hZ dL_law_333 (by decide) lw_v_X9_event e1 (lw_ob0 s0.1) rfl rfl (by decide +kernel) rfl (Nat.le_of_ble_eq_true rfl) (by decide +kernel) (by decide +kernel) (by omega) hl.1 hP hS (fun H locs hP hS => ?_)
  refine lv_aload_n hx hb dL_law_336 rfl (lv_at hl 2 rfl) ?_
  refine lv_aload_n hx hb dL_law_337 rfl (lv_at hl 0 rfl) ?_
  refine lv_iload_n hx hb dL_law_338 rfl (lv_at hl 3 rfl) ?_
  refine lv_iconst (v := 1) hx hb dL_law_339 (by decide) ?_
  refine lv_iadd hx hb dL_law_340 ?_
  refine va_sld hx hb hX hbl hbA hS v1 dL_law_341 ?_
  rw [x1]
  refine lv_aload_n hx hb dL_law_342 rfl (lv_at hl 0 rfl) ?_
  refine lv_iload_n hx hb dL_law_343 rfl (lv_at hl 3 rfl) ?_
  refine lv_iconst (v := 2) hx hb dL_law_344 (by decide) ?_
  refine lv_iadd hx hb dL_law_345 ?_
  refine va_sld hx hb hX hbl hbA hS v2 dL_law_346 ?_
  rw [x2]
  refine lw_callV (i := 33) (as := [.int (xs (i + 1)), .int (xs (i + 2))]) (rest := [.int v]) C hZ dL_law_347 (by decide) lw_v_X10_event e2 (lw_ob33 (by omega)) rfl rfl (by decide +kernel) rfl (Nat.le_of_ble_eq_true rfl) (by decide +kernel) (by decide +kernel) (by omega) hl.1 hP hS (fun H locs hP hS => ?_)
  refine lv_icmp_eq (tgt := 786) hx hb dL_law_350 (by decide) (fun _ => ?_) (fun q => absurd rfl q)
  exact kk h2 H locs hI2 hP hS
theorem lw_case_7 (C : lw_C p s mid meth c b Ls xs D cs Zs) (hZ : rt_Zok s.heap.size sA Zs) (hsz : ∀ h, INV h → 71 ≤ h.1 ∧ h.1 ≤ 111) (hst : ∀ as : List Value, as.length = 5 → as.all rt_isI = true → lw_pair INV mX9_feed mX10_feed as) {i : Nat} (hi : i + 6 ≤ Ls) (hL : Ls ≤ 3072) {h : rt_H} (hI : INV h) {H : Heap} {locs : List Loc} {ca : Array Slot} (hP : va_P D vwCl (rt_wd s.heap.size cs h) H) (hS : va_S (fun q => s.heap.size ≤ q) s.heap H locs) (hl : lv_has ca 4 [(0, .ref b), (1, .ref (s.heap.size + 0)), (2, .ref (s.heap.size + 33)), (3, .int (nI i))])
    (kk : ∀ (h2 : rt_H) (H1 : Heap) (locs1 : List Loc), INV h2 → va_P D vwCl (rt_wd s.heap.size cs h2) H1 → va_S (fun q => s.heap.size ≤ q) s.heap H1 locs1 → lw_W p l e s mid b below meth c H1 locs1 h2 (F0 mid 786 ca [])) : lw_W p l e s mid b below meth c H locs h (F0 mid 355 ca []) := by
  obtain ⟨⟨hx, hb, hr, hml, hown, hts, hX, hbl, hlocks, hgv⟩, hK, hN, hz⟩ := id C
  have hbA : ¬ (fun q : Nat => s.heap.size ≤ q) b := Nat.not_le.mpr hbl
  obtain ⟨v, h1, h2, e1, e2, hI2⟩ := hst [.int (xs (i + 1)), .int (xs (i + 2)), .int (xs (i + 3)), .int (xs (i + 4)), .int (xs (i + 5))] rfl rfl h hI
  have s0 := hsz h hI
  have s2 := hsz h2 hI2
  have n1 := Ev_n e1
  have n2 := Ev_n e2
  have v1 : vp_in (nI i + 1) Ls := lw_in (k := 1) (by decide) hi hL
  have x1 : xs (nI i + 1).toNatClampNeg = xs (i + 1) := lw_xs (k := 1) (by decide) hi hL
  have v2 : vp_in (nI i + 2) Ls := lw_in (k := 2) (by decide) hi hL
  have x2 : xs (nI i + 2).toNatClampNeg = xs (i + 2) := lw_xs (k := 2) (by decide) hi hL
  have v3 : vp_in (nI i + 3) Ls := lw_in (k := 3) (by decide) hi hL
  have x3 : xs (nI i + 3).toNatClampNeg = xs (i + 3) := lw_xs (k := 3) (by decide) hi hL
  have v4 : vp_in (nI i + 4) Ls := lw_in (k := 4) (by decide) hi hL
  have x4 : xs (nI i + 4).toNatClampNeg = xs (i + 4) := lw_xs (k := 4) (by decide) hi hL
  have v5 : vp_in (nI i + 5) Ls := lw_in (k := 5) (by decide) hi hL
  have x5 : xs (nI i + 5).toNatClampNeg = xs (i + 5) := lw_xs (k := 5) (by decide) hi hL
  refine lv_aload_n hx hb dL_law_355 rfl (lv_at hl 1 rfl) ?_
  refine lv_aload_n hx hb dL_law_356 rfl (lv_at hl 0 rfl) ?_
  refine lv_iload_n hx hb dL_law_357 rfl (lv_at hl 3 rfl) ?_
  refine lv_iconst (v := 1) hx hb dL_law_358 (by decide) ?_
  refine lv_iadd hx hb dL_law_359 ?_
  refine va_sld hx hb hX hbl hbA hS v1 dL_law_360 ?_
  rw [x1]
  refine lv_aload_n hx hb dL_law_361 rfl (lv_at hl 0 rfl) ?_
  refine lv_iload_n hx hb dL_law_362 rfl (lv_at hl 3 rfl) ?_
  refine lv_iconst (v := 2) hx hb dL_law_363 (by decide) ?_
  refine lv_iadd hx hb dL_law_364 ?_
  refine va_sld hx hb hX hbl hbA hS v2 dL_law_365 ?_
  rw [x2]
  refine lv_aload_n hx hb dL_law_366 rfl (lv_at hl 0 rfl) ?_
  refine lv_iload_n hx hb dL_law_367 rfl (lv_at hl 3 rfl) ?_
  refine lv_iconst (v := 3) hx hb dL_law_368 (by decide) ?_
  refine lv_iadd hx hb dL_law_369 ?_
  refine va_sld hx hb hX hbl hbA hS v3 dL_law_370 ?_
  rw [x3]
  refine lv_aload_n hx hb dL_law_371 rfl (lv_at hl 0 rfl) ?_
  refine lv_iload_n hx hb dL_law_372 rfl (lv_at hl 3 rfl) ?_
  refine lv_iconst (v := 4) hx hb dL_law_373 (by decide) ?_
  refine lv_iadd hx hb dL_law_374 ?_
  refine va_sld hx hb hX hbl hbA hS v4 dL_law_375 ?_
  rw [x4]
  refine lv_aload_n hx hb dL_law_376 rfl (lv_at hl 0 rfl) ?_
  refine lv_iload_n hx hb dL_law_377 rfl (lv_at hl 3 rfl) ?_
  refine lv_iconst (v := 5) hx hb dL_law_378 (by decide) ?_
  refine lv_iadd hx hb dL_law_379 ?_
  refine va_sld hx hb hX hbl hbA hS v5 dL_law_380 ?_
  rw [x5]
  refine lw_callV (i := 0) (as := [.int (xs (i + 1)), .int (xs (i + 2)), .int (xs (i + 3)), .int (xs (i + 4)), .int (xs (i + 5))]) (rest := []) C hZ dL_law_381 (by decide) lw_v_X9_feed e1 (lw_ob0 s0.1) rfl rfl (by decide +kernel) rfl (Nat.le_of_ble_eq_true rfl) (by decide +kernel) (by decide +kernel) (by omega) hl.1 hP hS (fun H locs hP hS => ?_)
  refine lv_aload_n hx hb dL_law_384 rfl (lv_at hl 2 rfl) ?_
  refine lv_aload_n hx hb dL_law_385 rfl (lv_at hl 0 rfl) ?_
  refine lv_iload_n hx hb dL_law_386 rfl (lv_at hl 3 rfl) ?_
  refine lv_iconst (v := 1) hx hb dL_law_387 (by decide) ?_
  refine lv_iadd hx hb dL_law_388 ?_
  refine va_sld hx hb hX hbl hbA hS v1 dL_law_389 ?_
  rw [x1]
  refine lv_aload_n hx hb dL_law_390 rfl (lv_at hl 0 rfl) ?_
  refine lv_iload_n hx hb dL_law_391 rfl (lv_at hl 3 rfl) ?_
  refine lv_iconst (v := 2) hx hb dL_law_392 (by decide) ?_
  refine lv_iadd hx hb dL_law_393 ?_
  refine va_sld hx hb hX hbl hbA hS v2 dL_law_394 ?_
  rw [x2]
  refine lv_aload_n hx hb dL_law_395 rfl (lv_at hl 0 rfl) ?_
  refine lv_iload_n hx hb dL_law_396 rfl (lv_at hl 3 rfl) ?_
  refine lv_iconst (v := 3) hx hb dL_law_397 (by decide) ?_
  refine lv_iadd hx hb dL_law_398 ?_
  refine va_sld hx hb hX hbl hbA hS v3 dL_law_399 ?_
  rw [x3]
  refine lv_aload_n hx hb dL_law_400 rfl (lv_at hl 0 rfl) ?_
  refine lv_iload_n hx hb dL_law_401 rfl (lv_at hl 3 rfl) ?_
  refine lv_iconst (v := 4) hx hb dL_law_402 (by decide) ?_
  refine lv_iadd hx hb dL_law_403 ?_
  refine va_sld hx hb hX hbl hbA hS v4 dL_law_404 ?_
  rw [x4]
  refine lv_aload_n hx hb dL_law_405 rfl (lv_at hl 0 rfl) ?_
  refine lv_iload_n hx hb dL_law_406 rfl (lv_at hl 3 rfl) ?_
  refine lv_iconst (v := 5) hx hb dL_law_407 (by decide) ?_
  refine lv_iadd hx hb dL_law_408 ?_
  refine va_sld hx hb hX hbl hbA hS v5 dL_law_409 ?_
  rw [x5]
  refine lw_callV (i := 33) (as := [.int (xs (i + 1)), .int (xs (i + 2)), .int (xs (i + 3)), .int (xs (i + 4)), .int (xs (i + 5))]) (rest := [.int v]) C hZ dL_law_410 (by decide) lw_v_X10_feed e2 (lw_ob33 (by omega)) rfl rfl (by decide +kernel) rfl (Nat.le_of_ble_eq_true rfl) (by decide +kernel) (by decide +kernel) (by omega) hl.1 hP hS (fun H locs hP hS => ?_)
  refine lv_icmp_eq (tgt := 786) hx hb dL_law_413 (by decide) (fun _ => ?_) (fun q => absurd rfl q)
  exact kk h2 H locs hI2 hP hS
theorem lw_case_8 (C : lw_C p s mid meth c b Ls xs D cs Zs) (hZ : rt_Zok s.heap.size sA Zs) (hsz : ∀ h, INV h → 71 ≤ h.1 ∧ h.1 ≤ 111) (hst : ∀ as : List Value, as.length = 1 → as.all rt_isI = true → lw_pair INV mX9_say mX10_say as) {i : Nat} (hi : i + 6 ≤ Ls) (hL : Ls ≤ 3072) {h : rt_H} (hI : INV h) {H : Heap} {locs : List Loc} {ca : Array Slot} (hP : va_P D vwCl (rt_wd s.heap.size cs h) H) (hS : va_S (fun q => s.heap.size ≤ q) s.heap H locs) (hl : lv_has ca 4 [(0, .ref b), (1, .ref (s.heap.size + 0)), (2, .ref (s.heap.size + 33)), (3, .int (nI i))])
    (kk : ∀ (h2 : rt_H) (H1 : Heap) (locs1 : List Loc), INV h2 → va_P D vwCl (rt_wd s.heap.size cs h2) H1 → va_S (fun q => s.heap.size ≤ q) s.heap H1 locs1 → lw_W p l e s mid b below meth c H1 locs1 h2 (F0 mid 786 ca [])) : lw_W p l e s mid b below meth c H locs h (F0 mid 418 ca []) := by
  obtain ⟨⟨hx, hb, hr, hml, hown, hts, hX, hbl, hlocks, hgv⟩, hK, hN, hz⟩ := id C
  have hbA : ¬ (fun q : Nat => s.heap.size ≤ q) b := Nat.not_le.mpr hbl
  obtain ⟨v, h1, h2, e1, e2, hI2⟩ := hst [.int (xs (i + 1))] rfl rfl h hI
  have s0 := hsz h hI
  have s2 := hsz h2 hI2
  have n1 := Ev_n e1
  have n2 := Ev_n e2
  have v1 : vp_in (nI i + 1) Ls := lw_in (k := 1) (by decide) hi hL
  have x1 : xs (nI i + 1).toNatClampNeg = xs (i + 1) := lw_xs (k := 1) (by decide) hi hL
  refine lv_aload_n hx hb dL_law_418 rfl (lv_at hl 1 rfl) ?_
  refine lv_aload_n hx hb dL_law_419 rfl (lv_at hl 0 rfl) ?_
  refine lv_iload_n hx hb dL_law_420 rfl (lv_at hl 3 rfl) ?_
  refine lv_iconst (v := 1) hx hb dL_law_421 (by decide) ?_
  refine lv_iadd hx hb dL_law_422 ?_
  refine va_sld hx hb hX hbl hbA hS v1 dL_law_423 ?_
  rw [x1]
  refine lw_callV (i := 0) (as := [.int (xs (i + 1))]) (rest := []) C hZ dL_law_424 (by decide) lw_v_X9_say e1 (lw_ob0 s0.1) rfl rfl (by decide +kernel) rfl (Nat.le_of_ble_eq_true rfl) (by decide +kernel) (by decide +kernel) (by omega) hl.1 hP hS (fun H locs hP hS => ?_)
  refine lv_aload_n hx hb dL_law_427 rfl (lv_at hl 2 rfl) ?_
  refine lv_aload_n hx hb dL_law_428 rfl (lv_at hl 0 rfl) ?_
  refine lv_iload_n hx hb dL_law_429 rfl (lv_at hl 3 rfl) ?_
  refine lv_iconst (v := 1) hx hb dL_law_430 (by decide) ?_
  refine lv_iadd hx hb dL_law_431 ?_
  refine va_sld hx hb hX hbl hbA hS v1 dL_law_432 ?_
  rw [x1]
  refine lw_callV (i := 33) (as := [.int (xs (i + 1))]) (rest := [.int v]) C hZ dL_law_433 (by decide) lw_v_X10_say e2 (lw_ob33 (by omega)) rfl rfl (by decide +kernel) rfl (Nat.le_of_ble_eq_true rfl) (by decide +kernel) (by decide +kernel) (by omega) hl.1 hP hS (fun H locs hP hS => ?_)
  refine lv_icmp_eq (tgt := 786) hx hb dL_law_436 (by decide) (fun _ => ?_) (fun q => absurd rfl q)
  exact kk h2 H locs hI2 hP hS
theorem lw_case_9 (C : lw_C p s mid meth c b Ls xs D cs Zs) (hZ : rt_Zok s.heap.size sA Zs) (hsz : ∀ h, INV h → 71 ≤ h.1 ∧ h.1 ≤ 111) (hst : ∀ as : List Value, as.length = 2 → as.all rt_isI = true → lw_pair INV mX9_reading mX10_reading as) {i : Nat} (hi : i + 6 ≤ Ls) (hL : Ls ≤ 3072) {h : rt_H} (hI : INV h) {H : Heap} {locs : List Loc} {ca : Array Slot} (hP : va_P D vwCl (rt_wd s.heap.size cs h) H) (hS : va_S (fun q => s.heap.size ≤ q) s.heap H locs) (hl : lv_has ca 4 [(0, .ref b), (1, .ref (s.heap.size + 0)), (2, .ref (s.heap.size + 33)), (3, .int (nI i))])
    (kk : ∀ (h2 : rt_H) (H1 : Heap) (locs1 : List Loc), INV h2 → va_P D vwCl (rt_wd s.heap.size cs h2) H1 → va_S (fun q => s.heap.size ≤ q) s.heap H1 locs1 → lw_W p l e s mid b below meth c H1 locs1 h2 (F0 mid 786 ca [])) : lw_W p l e s mid b below meth c H locs h (F0 mid 441 ca []) := by
  obtain ⟨⟨hx, hb, hr, hml, hown, hts, hX, hbl, hlocks, hgv⟩, hK, hN, hz⟩ := id C
  have hbA : ¬ (fun q : Nat => s.heap.size ≤ q) b := Nat.not_le.mpr hbl
  obtain ⟨v, h1, h2, e1, e2, hI2⟩ := hst [.int (xs (i + 1)), .int (xs (i + 2))] rfl rfl h hI
  have s0 := hsz h hI
  have s2 := hsz h2 hI2
  have n1 := Ev_n e1
  have n2 := Ev_n e2
  have v1 : vp_in (nI i + 1) Ls := lw_in (k := 1) (by decide) hi hL
  have x1 : xs (nI i + 1).toNatClampNeg = xs (i + 1) := lw_xs (k := 1) (by decide) hi hL
  have v2 : vp_in (nI i + 2) Ls := lw_in (k := 2) (by decide) hi hL
  have x2 : xs (nI i + 2).toNatClampNeg = xs (i + 2) := lw_xs (k := 2) (by decide) hi hL
  refine lv_aload_n hx hb dL_law_441 rfl (lv_at hl 1 rfl) ?_
  refine lv_aload_n hx hb dL_law_442 rfl (lv_at hl 0 rfl) ?_
  refine lv_iload_n hx hb dL_law_443 rfl (lv_at hl 3 rfl) ?_
  refine lv_iconst (v := 1) hx hb dL_law_444 (by decide) ?_
  refine lv_iadd hx hb dL_law_445 ?_
  refine va_sld hx hb hX hbl hbA hS v1 dL_law_446 ?_
  rw [x1]
  refine lv_aload_n hx hb dL_law_447 rfl (lv_at hl 0 rfl) ?_
  refine lv_iload_n hx hb dL_law_448 rfl (lv_at hl 3 rfl) ?_
  refine lv_iconst (v := 2) hx hb dL_law_449 (by decide) ?_
  refine lv_iadd hx hb dL_law_450 ?_
  refine va_sld hx hb hX hbl hbA hS v2 dL_law_451 ?_
  rw [x2]
  refine lw_callV (i := 0) (as := [.int (xs (i + 1)), .int (xs (i + 2))]) (rest := []) C hZ dL_law_452 (by decide) lw_v_X9_reading e1 (lw_ob0 s0.1) rfl rfl (by decide +kernel) rfl (Nat.le_of_ble_eq_true rfl) (by decide +kernel) (by decide +kernel) (by omega) hl.1 hP hS (fun H locs hP hS => ?_)
  refine lv_aload_n hx hb dL_law_455 rfl (lv_at hl 2 rfl) ?_
  refine lv_aload_n hx hb dL_law_456 rfl (lv_at hl 0 rfl) ?_
  refine lv_iload_n hx hb dL_law_457 rfl (lv_at hl 3 rfl) ?_
  refine lv_iconst (v := 1) hx hb dL_law_458 (by decide) ?_
  refine lv_iadd hx hb dL_law_459 ?_
  refine va_sld hx hb hX hbl hbA hS v1 dL_law_460 ?_
  rw [x1]
  refine lv_aload_n hx hb dL_law_461 rfl (lv_at hl 0 rfl) ?_
  refine lv_iload_n hx hb dL_law_462 rfl (lv_at hl 3 rfl) ?_
  refine lv_iconst (v := 2) hx hb dL_law_463 (by decide) ?_
  refine lv_iadd hx hb dL_law_464 ?_
  refine va_sld hx hb hX hbl hbA hS v2 dL_law_465 ?_
  rw [x2]
  refine lw_callV (i := 33) (as := [.int (xs (i + 1)), .int (xs (i + 2))]) (rest := [.int v]) C hZ dL_law_466 (by decide) lw_v_X10_reading e2 (lw_ob33 (by omega)) rfl rfl (by decide +kernel) rfl (Nat.le_of_ble_eq_true rfl) (by decide +kernel) (by decide +kernel) (by omega) hl.1 hP hS (fun H locs hP hS => ?_)
  refine lv_icmp_eq (tgt := 786) hx hb dL_law_469 (by decide) (fun _ => ?_) (fun q => absurd rfl q)
  exact kk h2 H locs hI2 hP hS
theorem lw_case_10 (C : lw_C p s mid meth c b Ls xs D cs Zs) (hZ : rt_Zok s.heap.size sA Zs) (hsz : ∀ h, INV h → 71 ≤ h.1 ∧ h.1 ≤ 111) (hst : ∀ as : List Value, as.length = 2 → as.all rt_isI = true → lw_pair INV mX9_means mX10_means as) {i : Nat} (hi : i + 6 ≤ Ls) (hL : Ls ≤ 3072) {h : rt_H} (hI : INV h) {H : Heap} {locs : List Loc} {ca : Array Slot} (hP : va_P D vwCl (rt_wd s.heap.size cs h) H) (hS : va_S (fun q => s.heap.size ≤ q) s.heap H locs) (hl : lv_has ca 4 [(0, .ref b), (1, .ref (s.heap.size + 0)), (2, .ref (s.heap.size + 33)), (3, .int (nI i))])
    (kk : ∀ (h2 : rt_H) (H1 : Heap) (locs1 : List Loc), INV h2 → va_P D vwCl (rt_wd s.heap.size cs h2) H1 → va_S (fun q => s.heap.size ≤ q) s.heap H1 locs1 → lw_W p l e s mid b below meth c H1 locs1 h2 (F0 mid 786 ca [])) : lw_W p l e s mid b below meth c H locs h (F0 mid 474 ca []) := by
  obtain ⟨⟨hx, hb, hr, hml, hown, hts, hX, hbl, hlocks, hgv⟩, hK, hN, hz⟩ := id C
  have hbA : ¬ (fun q : Nat => s.heap.size ≤ q) b := Nat.not_le.mpr hbl
  obtain ⟨v, h1, h2, e1, e2, hI2⟩ := hst [.int (xs (i + 1)), .int (xs (i + 2))] rfl rfl h hI
  have s0 := hsz h hI
  have s2 := hsz h2 hI2
  have n1 := Ev_n e1
  have n2 := Ev_n e2
  have v1 : vp_in (nI i + 1) Ls := lw_in (k := 1) (by decide) hi hL
  have x1 : xs (nI i + 1).toNatClampNeg = xs (i + 1) := lw_xs (k := 1) (by decide) hi hL
  have v2 : vp_in (nI i + 2) Ls := lw_in (k := 2) (by decide) hi hL
  have x2 : xs (nI i + 2).toNatClampNeg = xs (i + 2) := lw_xs (k := 2) (by decide) hi hL
  refine lv_aload_n hx hb dL_law_474 rfl (lv_at hl 1 rfl) ?_
  refine lv_aload_n hx hb dL_law_475 rfl (lv_at hl 0 rfl) ?_
  refine lv_iload_n hx hb dL_law_476 rfl (lv_at hl 3 rfl) ?_
  refine lv_iconst (v := 1) hx hb dL_law_477 (by decide) ?_
  refine lv_iadd hx hb dL_law_478 ?_
  refine va_sld hx hb hX hbl hbA hS v1 dL_law_479 ?_
  rw [x1]
  refine lv_aload_n hx hb dL_law_480 rfl (lv_at hl 0 rfl) ?_
  refine lv_iload_n hx hb dL_law_481 rfl (lv_at hl 3 rfl) ?_
  refine lv_iconst (v := 2) hx hb dL_law_482 (by decide) ?_
  refine lv_iadd hx hb dL_law_483 ?_
  refine va_sld hx hb hX hbl hbA hS v2 dL_law_484 ?_
  rw [x2]
  refine lw_callV (i := 0) (as := [.int (xs (i + 1)), .int (xs (i + 2))]) (rest := []) C hZ dL_law_485 (by decide) lw_v_X9_means e1 (lw_ob0 s0.1) rfl rfl (by decide +kernel) rfl (Nat.le_of_ble_eq_true rfl) (by decide +kernel) (by decide +kernel) (by omega) hl.1 hP hS (fun H locs hP hS => ?_)
  refine lv_aload_n hx hb dL_law_488 rfl (lv_at hl 2 rfl) ?_
  refine lv_aload_n hx hb dL_law_489 rfl (lv_at hl 0 rfl) ?_
  refine lv_iload_n hx hb dL_law_490 rfl (lv_at hl 3 rfl) ?_
  refine lv_iconst (v := 1) hx hb dL_law_491 (by decide) ?_
  refine lv_iadd hx hb dL_law_492 ?_
  refine va_sld hx hb hX hbl hbA hS v1 dL_law_493 ?_
  rw [x1]
  refine lv_aload_n hx hb dL_law_494 rfl (lv_at hl 0 rfl) ?_
  refine lv_iload_n hx hb dL_law_495 rfl (lv_at hl 3 rfl) ?_
  refine lv_iconst (v := 2) hx hb dL_law_496 (by decide) ?_
  refine lv_iadd hx hb dL_law_497 ?_
  refine va_sld hx hb hX hbl hbA hS v2 dL_law_498 ?_
  rw [x2]
  refine lw_callV (i := 33) (as := [.int (xs (i + 1)), .int (xs (i + 2))]) (rest := [.int v]) C hZ dL_law_499 (by decide) lw_v_X10_means e2 (lw_ob33 (by omega)) rfl rfl (by decide +kernel) rfl (Nat.le_of_ble_eq_true rfl) (by decide +kernel) (by decide +kernel) (by omega) hl.1 hP hS (fun H locs hP hS => ?_)
  refine lv_icmp_eq (tgt := 786) hx hb dL_law_502 (by decide) (fun _ => ?_) (fun q => absurd rfl q)
  exact kk h2 H locs hI2 hP hS
theorem lw_case_11 (C : lw_C p s mid meth c b Ls xs D cs Zs) (hZ : rt_Zok s.heap.size sA Zs) (hsz : ∀ h, INV h → 71 ≤ h.1 ∧ h.1 ≤ 111) (hst : ∀ as : List Value, as.length = 2 → as.all rt_isI = true → lw_pair INV mX9_trouble mX10_trouble as) {i : Nat} (hi : i + 6 ≤ Ls) (hL : Ls ≤ 3072) {h : rt_H} (hI : INV h) {H : Heap} {locs : List Loc} {ca : Array Slot} (hP : va_P D vwCl (rt_wd s.heap.size cs h) H) (hS : va_S (fun q => s.heap.size ≤ q) s.heap H locs) (hl : lv_has ca 4 [(0, .ref b), (1, .ref (s.heap.size + 0)), (2, .ref (s.heap.size + 33)), (3, .int (nI i))])
    (kk : ∀ (h2 : rt_H) (H1 : Heap) (locs1 : List Loc), INV h2 → va_P D vwCl (rt_wd s.heap.size cs h2) H1 → va_S (fun q => s.heap.size ≤ q) s.heap H1 locs1 → lw_W p l e s mid b below meth c H1 locs1 h2 (F0 mid 786 ca [])) : lw_W p l e s mid b below meth c H locs h (F0 mid 507 ca []) := by
  obtain ⟨⟨hx, hb, hr, hml, hown, hts, hX, hbl, hlocks, hgv⟩, hK, hN, hz⟩ := id C
  have hbA : ¬ (fun q : Nat => s.heap.size ≤ q) b := Nat.not_le.mpr hbl
  obtain ⟨v, h1, h2, e1, e2, hI2⟩ := hst [.int (xs (i + 1)), .int (xs (i + 2))] rfl rfl h hI
  have s0 := hsz h hI
  have s2 := hsz h2 hI2
  have n1 := Ev_n e1
  have n2 := Ev_n e2
  have v1 : vp_in (nI i + 1) Ls := lw_in (k := 1) (by decide) hi hL
  have x1 : xs (nI i + 1).toNatClampNeg = xs (i + 1) := lw_xs (k := 1) (by decide) hi hL
  have v2 : vp_in (nI i + 2) Ls := lw_in (k := 2) (by decide) hi hL
  have x2 : xs (nI i + 2).toNatClampNeg = xs (i + 2) := lw_xs (k := 2) (by decide) hi hL
  refine lv_aload_n hx hb dL_law_507 rfl (lv_at hl 1 rfl) ?_
  refine lv_aload_n hx hb dL_law_508 rfl (lv_at hl 0 rfl) ?_
  refine lv_iload_n hx hb dL_law_509 rfl (lv_at hl 3 rfl) ?_
  refine lv_iconst (v := 1) hx hb dL_law_510 (by decide) ?_
  refine lv_iadd hx hb dL_law_511 ?_
  refine va_sld hx hb hX hbl hbA hS v1 dL_law_512 ?_
  rw [x1]
  refine lv_aload_n hx hb dL_law_513 rfl (lv_at hl 0 rfl) ?_
  refine lv_iload_n hx hb dL_law_514 rfl (lv_at hl 3 rfl) ?_
  refine lv_iconst (v := 2) hx hb dL_law_515 (by decide) ?_
  refine lv_iadd hx hb dL_law_516 ?_
  refine va_sld hx hb hX hbl hbA hS v2 dL_law_517 ?_
  rw [x2]
  refine lw_callV (i := 0) (as := [.int (xs (i + 1)), .int (xs (i + 2))]) (rest := []) C hZ dL_law_518 (by decide) lw_v_X9_trouble e1 (lw_ob0 s0.1) rfl rfl (by decide +kernel) rfl (Nat.le_of_ble_eq_true rfl) (by decide +kernel) (by decide +kernel) (by omega) hl.1 hP hS (fun H locs hP hS => ?_)
  refine lv_aload_n hx hb dL_law_521 rfl (lv_at hl 2 rfl) ?_
  refine lv_aload_n hx hb dL_law_522 rfl (lv_at hl 0 rfl) ?_
  refine lv_iload_n hx hb dL_law_523 rfl (lv_at hl 3 rfl) ?_
  refine lv_iconst (v := 1) hx hb dL_law_524 (by decide) ?_
  refine lv_iadd hx hb dL_law_525 ?_
  refine va_sld hx hb hX hbl hbA hS v1 dL_law_526 ?_
  rw [x1]
  refine lv_aload_n hx hb dL_law_527 rfl (lv_at hl 0 rfl) ?_
  refine lv_iload_n hx hb dL_law_528 rfl (lv_at hl 3 rfl) ?_
  refine lv_iconst (v := 2) hx hb dL_law_529 (by decide) ?_
  refine lv_iadd hx hb dL_law_530 ?_
  refine va_sld hx hb hX hbl hbA hS v2 dL_law_531 ?_
  rw [x2]
  refine lw_callV (i := 33) (as := [.int (xs (i + 1)), .int (xs (i + 2))]) (rest := [.int v]) C hZ dL_law_532 (by decide) lw_v_X10_trouble e2 (lw_ob33 (by omega)) rfl rfl (by decide +kernel) rfl (Nat.le_of_ble_eq_true rfl) (by decide +kernel) (by decide +kernel) (by omega) hl.1 hP hS (fun H locs hP hS => ?_)
  refine lv_icmp_eq (tgt := 786) hx hb dL_law_535 (by decide) (fun _ => ?_) (fun q => absurd rfl q)
  exact kk h2 H locs hI2 hP hS
theorem lw_case_12 (C : lw_C p s mid meth c b Ls xs D cs Zs) (hZ : rt_Zok s.heap.size sA Zs) (hsz : ∀ h, INV h → 71 ≤ h.1 ∧ h.1 ≤ 111) (hst : ∀ as : List Value, as.length = 0 → as.all rt_isI = true → lw_pair INV mX9_taken mX10_taken as) {i : Nat} (hi : i + 6 ≤ Ls) (hL : Ls ≤ 3072) {h : rt_H} (hI : INV h) {H : Heap} {locs : List Loc} {ca : Array Slot} (hP : va_P D vwCl (rt_wd s.heap.size cs h) H) (hS : va_S (fun q => s.heap.size ≤ q) s.heap H locs) (hl : lv_has ca 4 [(0, .ref b), (1, .ref (s.heap.size + 0)), (2, .ref (s.heap.size + 33)), (3, .int (nI i))])
    (kk : ∀ (h2 : rt_H) (H1 : Heap) (locs1 : List Loc), INV h2 → va_P D vwCl (rt_wd s.heap.size cs h2) H1 → va_S (fun q => s.heap.size ≤ q) s.heap H1 locs1 → lw_W p l e s mid b below meth c H1 locs1 h2 (F0 mid 786 ca [])) : lw_W p l e s mid b below meth c H locs h (F0 mid 540 ca []) := by
  obtain ⟨⟨hx, hb, hr, hml, hown, hts, hX, hbl, hlocks, hgv⟩, hK, hN, hz⟩ := id C
  have hbA : ¬ (fun q : Nat => s.heap.size ≤ q) b := Nat.not_le.mpr hbl
  obtain ⟨v, h1, h2, e1, e2, hI2⟩ := hst [] rfl rfl h hI
  have s0 := hsz h hI
  have s2 := hsz h2 hI2
  have n1 := Ev_n e1
  have n2 := Ev_n e2
  refine lv_aload_n hx hb dL_law_540 rfl (lv_at hl 1 rfl) ?_
  refine lw_callV (i := 0) (as := []) (rest := []) C hZ dL_law_541 (by decide) lw_v_X9_taken e1 (lw_ob0 s0.1) rfl rfl (by decide +kernel) rfl (Nat.le_of_ble_eq_true rfl) (by decide +kernel) (by decide +kernel) (by omega) hl.1 hP hS (fun H locs hP hS => ?_)
  refine lv_aload_n hx hb dL_law_544 rfl (lv_at hl 2 rfl) ?_
  refine lw_callV (i := 33) (as := []) (rest := [.int v]) C hZ dL_law_545 (by decide) lw_v_X10_taken e2 (lw_ob33 (by omega)) rfl rfl (by decide +kernel) rfl (Nat.le_of_ble_eq_true rfl) (by decide +kernel) (by decide +kernel) (by omega) hl.1 hP hS (fun H locs hP hS => ?_)
  refine lv_icmp_eq (tgt := 786) hx hb dL_law_548 (by decide) (fun _ => ?_) (fun q => absurd rfl q)
  exact kk h2 H locs hI2 hP hS
theorem lw_case_13 (C : lw_C p s mid meth c b Ls xs D cs Zs) (hZ : rt_Zok s.heap.size sA Zs) (hsz : ∀ h, INV h → 71 ≤ h.1 ∧ h.1 ≤ 111) (hst : ∀ as : List Value, as.length = 0 → as.all rt_isI = true → lw_pair INV mX9_answer mX10_answer as) {i : Nat} (hi : i + 6 ≤ Ls) (hL : Ls ≤ 3072) {h : rt_H} (hI : INV h) {H : Heap} {locs : List Loc} {ca : Array Slot} (hP : va_P D vwCl (rt_wd s.heap.size cs h) H) (hS : va_S (fun q => s.heap.size ≤ q) s.heap H locs) (hl : lv_has ca 4 [(0, .ref b), (1, .ref (s.heap.size + 0)), (2, .ref (s.heap.size + 33)), (3, .int (nI i))])
    (kk : ∀ (h2 : rt_H) (H1 : Heap) (locs1 : List Loc), INV h2 → va_P D vwCl (rt_wd s.heap.size cs h2) H1 → va_S (fun q => s.heap.size ≤ q) s.heap H1 locs1 → lw_W p l e s mid b below meth c H1 locs1 h2 (F0 mid 786 ca [])) : lw_W p l e s mid b below meth c H locs h (F0 mid 553 ca []) := by
  obtain ⟨⟨hx, hb, hr, hml, hown, hts, hX, hbl, hlocks, hgv⟩, hK, hN, hz⟩ := id C
  have hbA : ¬ (fun q : Nat => s.heap.size ≤ q) b := Nat.not_le.mpr hbl
  obtain ⟨v, h1, h2, e1, e2, hI2⟩ := hst [] rfl rfl h hI
  have s0 := hsz h hI
  have s2 := hsz h2 hI2
  have n1 := Ev_n e1
  have n2 := Ev_n e2
  refine lv_aload_n hx hb dL_law_553 rfl (lv_at hl 1 rfl) ?_
  refine lw_callV (i := 0) (as := []) (rest := []) C hZ dL_law_554 (by decide) lw_v_X9_answer e1 (lw_ob0 s0.1) rfl rfl (by decide +kernel) rfl (Nat.le_of_ble_eq_true rfl) (by decide +kernel) (by decide +kernel) (by omega) hl.1 hP hS (fun H locs hP hS => ?_)
  refine lv_aload_n hx hb dL_law_557 rfl (lv_at hl 2 rfl) ?_
  refine lw_callV (i := 33) (as := []) (rest := [.int v]) C hZ dL_law_558 (by decide) lw_v_X10_answer e2 (lw_ob33 (by omega)) rfl rfl (by decide +kernel) rfl (Nat.le_of_ble_eq_true rfl) (by decide +kernel) (by decide +kernel) (by omega) hl.1 hP hS (fun H locs hP hS => ?_)
  refine lv_icmp_eq (tgt := 786) hx hb dL_law_561 (by decide) (fun _ => ?_) (fun q => absurd rfl q)
  exact kk h2 H locs hI2 hP hS
theorem lw_case_14 (C : lw_C p s mid meth c b Ls xs D cs Zs) (hZ : rt_Zok s.heap.size sA Zs) (hsz : ∀ h, INV h → 71 ≤ h.1 ∧ h.1 ≤ 111) (hst : ∀ as : List Value, as.length = 1 → as.all rt_isI = true → lw_pair INV mX9_plan mX10_plan as) {i : Nat} (hi : i + 6 ≤ Ls) (hL : Ls ≤ 3072) {h : rt_H} (hI : INV h) {H : Heap} {locs : List Loc} {ca : Array Slot} (hP : va_P D vwCl (rt_wd s.heap.size cs h) H) (hS : va_S (fun q => s.heap.size ≤ q) s.heap H locs) (hl : lv_has ca 4 [(0, .ref b), (1, .ref (s.heap.size + 0)), (2, .ref (s.heap.size + 33)), (3, .int (nI i))])
    (kk : ∀ (h2 : rt_H) (H1 : Heap) (locs1 : List Loc), INV h2 → va_P D vwCl (rt_wd s.heap.size cs h2) H1 → va_S (fun q => s.heap.size ≤ q) s.heap H1 locs1 → lw_W p l e s mid b below meth c H1 locs1 h2 (F0 mid 786 ca [])) : lw_W p l e s mid b below meth c H locs h (F0 mid 566 ca []) := by
  obtain ⟨⟨hx, hb, hr, hml, hown, hts, hX, hbl, hlocks, hgv⟩, hK, hN, hz⟩ := id C
  have hbA : ¬ (fun q : Nat => s.heap.size ≤ q) b := Nat.not_le.mpr hbl
  obtain ⟨v, h1, h2, e1, e2, hI2⟩ := hst [.int (xs (i + 1))] rfl rfl h hI
  have s0 := hsz h hI
  have s2 := hsz h2 hI2
  have n1 := Ev_n e1
  have n2 := Ev_n e2
  have v1 : vp_in (nI i + 1) Ls := lw_in (k := 1) (by decide) hi hL
  have x1 : xs (nI i + 1).toNatClampNeg = xs (i + 1) := lw_xs (k := 1) (by decide) hi hL
  refine lv_aload_n hx hb dL_law_566 rfl (lv_at hl 1 rfl) ?_
  refine lv_aload_n hx hb dL_law_567 rfl (lv_at hl 0 rfl) ?_
  refine lv_iload_n hx hb dL_law_568 rfl (lv_at hl 3 rfl) ?_
  refine lv_iconst (v := 1) hx hb dL_law_569 (by decide) ?_
  refine lv_iadd hx hb dL_law_570 ?_
  refine va_sld hx hb hX hbl hbA hS v1 dL_law_571 ?_
  rw [x1]
  refine lw_callV (i := 0) (as := [.int (xs (i + 1))]) (rest := []) C hZ dL_law_572 (by decide) lw_v_X9_plan e1 (lw_ob0 s0.1) rfl rfl (by decide +kernel) rfl (Nat.le_of_ble_eq_true rfl) (by decide +kernel) (by decide +kernel) (by omega) hl.1 hP hS (fun H locs hP hS => ?_)
  refine lv_aload_n hx hb dL_law_575 rfl (lv_at hl 2 rfl) ?_
  refine lv_aload_n hx hb dL_law_576 rfl (lv_at hl 0 rfl) ?_
  refine lv_iload_n hx hb dL_law_577 rfl (lv_at hl 3 rfl) ?_
  refine lv_iconst (v := 1) hx hb dL_law_578 (by decide) ?_
  refine lv_iadd hx hb dL_law_579 ?_
  refine va_sld hx hb hX hbl hbA hS v1 dL_law_580 ?_
  rw [x1]
  refine lw_callV (i := 33) (as := [.int (xs (i + 1))]) (rest := [.int v]) C hZ dL_law_581 (by decide) lw_v_X10_plan e2 (lw_ob33 (by omega)) rfl rfl (by decide +kernel) rfl (Nat.le_of_ble_eq_true rfl) (by decide +kernel) (by decide +kernel) (by omega) hl.1 hP hS (fun H locs hP hS => ?_)
  refine lv_icmp_eq (tgt := 786) hx hb dL_law_584 (by decide) (fun _ => ?_) (fun q => absurd rfl q)
  exact kk h2 H locs hI2 hP hS
theorem lw_case_15 (C : lw_C p s mid meth c b Ls xs D cs Zs) (hZ : rt_Zok s.heap.size sA Zs) (hsz : ∀ h, INV h → 71 ≤ h.1 ∧ h.1 ≤ 111) (hst : ∀ as : List Value, as.length = 0 → as.all rt_isI = true → lw_pair INV mX9_done mX10_done as) {i : Nat} (hi : i + 6 ≤ Ls) (hL : Ls ≤ 3072) {h : rt_H} (hI : INV h) {H : Heap} {locs : List Loc} {ca : Array Slot} (hP : va_P D vwCl (rt_wd s.heap.size cs h) H) (hS : va_S (fun q => s.heap.size ≤ q) s.heap H locs) (hl : lv_has ca 4 [(0, .ref b), (1, .ref (s.heap.size + 0)), (2, .ref (s.heap.size + 33)), (3, .int (nI i))])
    (kk : ∀ (h2 : rt_H) (H1 : Heap) (locs1 : List Loc), INV h2 → va_P D vwCl (rt_wd s.heap.size cs h2) H1 → va_S (fun q => s.heap.size ≤ q) s.heap H1 locs1 → lw_W p l e s mid b below meth c H1 locs1 h2 (F0 mid 786 ca [])) : lw_W p l e s mid b below meth c H locs h (F0 mid 589 ca []) := by
  obtain ⟨⟨hx, hb, hr, hml, hown, hts, hX, hbl, hlocks, hgv⟩, hK, hN, hz⟩ := id C
  have hbA : ¬ (fun q : Nat => s.heap.size ≤ q) b := Nat.not_le.mpr hbl
  obtain ⟨v, h1, h2, e1, e2, hI2⟩ := hst [] rfl rfl h hI
  have s0 := hsz h hI
  have s2 := hsz h2 hI2
  have n1 := Ev_n e1
  have n2 := Ev_n e2
  refine lv_aload_n hx hb dL_law_589 rfl (lv_at hl 1 rfl) ?_
  refine lw_callV (i := 0) (as := []) (rest := []) C hZ dL_law_590 (by decide) lw_v_X9_done e1 (lw_ob0 s0.1) rfl rfl (by decide +kernel) rfl (Nat.le_of_ble_eq_true rfl) (by decide +kernel) (by decide +kernel) (by omega) hl.1 hP hS (fun H locs hP hS => ?_)
  refine lv_aload_n hx hb dL_law_593 rfl (lv_at hl 2 rfl) ?_
  refine lw_callV (i := 33) (as := []) (rest := [.int v]) C hZ dL_law_594 (by decide) lw_v_X10_done e2 (lw_ob33 (by omega)) rfl rfl (by decide +kernel) rfl (Nat.le_of_ble_eq_true rfl) (by decide +kernel) (by decide +kernel) (by omega) hl.1 hP hS (fun H locs hP hS => ?_)
  refine lv_icmp_eq (tgt := 786) hx hb dL_law_597 (by decide) (fun _ => ?_) (fun q => absurd rfl q)
  exact kk h2 H locs hI2 hP hS
theorem lw_case_16 (C : lw_C p s mid meth c b Ls xs D cs Zs) (hZ : rt_Zok s.heap.size sA Zs) (hsz : ∀ h, INV h → 71 ≤ h.1 ∧ h.1 ≤ 111) (hst : ∀ as : List Value, as.length = 1 → as.all rt_isI = true → lw_pair INV mX9_mentioned mX10_mentioned as) {i : Nat} (hi : i + 6 ≤ Ls) (hL : Ls ≤ 3072) {h : rt_H} (hI : INV h) {H : Heap} {locs : List Loc} {ca : Array Slot} (hP : va_P D vwCl (rt_wd s.heap.size cs h) H) (hS : va_S (fun q => s.heap.size ≤ q) s.heap H locs) (hl : lv_has ca 4 [(0, .ref b), (1, .ref (s.heap.size + 0)), (2, .ref (s.heap.size + 33)), (3, .int (nI i))])
    (kk : ∀ (h2 : rt_H) (H1 : Heap) (locs1 : List Loc), INV h2 → va_P D vwCl (rt_wd s.heap.size cs h2) H1 → va_S (fun q => s.heap.size ≤ q) s.heap H1 locs1 → lw_W p l e s mid b below meth c H1 locs1 h2 (F0 mid 786 ca [])) : lw_W p l e s mid b below meth c H locs h (F0 mid 602 ca []) := by
  obtain ⟨⟨hx, hb, hr, hml, hown, hts, hX, hbl, hlocks, hgv⟩, hK, hN, hz⟩ := id C
  have hbA : ¬ (fun q : Nat => s.heap.size ≤ q) b := Nat.not_le.mpr hbl
  obtain ⟨v, h1, h2, e1, e2, hI2⟩ := hst [.int (xs (i + 1))] rfl rfl h hI
  have s0 := hsz h hI
  have s2 := hsz h2 hI2
  have n1 := Ev_n e1
  have n2 := Ev_n e2
  have v1 : vp_in (nI i + 1) Ls := lw_in (k := 1) (by decide) hi hL
  have x1 : xs (nI i + 1).toNatClampNeg = xs (i + 1) := lw_xs (k := 1) (by decide) hi hL
  refine lv_aload_n hx hb dL_law_602 rfl (lv_at hl 1 rfl) ?_
  refine lv_aload_n hx hb dL_law_603 rfl (lv_at hl 0 rfl) ?_
  refine lv_iload_n hx hb dL_law_604 rfl (lv_at hl 3 rfl) ?_
  refine lv_iconst (v := 1) hx hb dL_law_605 (by decide) ?_
  refine lv_iadd hx hb dL_law_606 ?_
  refine va_sld hx hb hX hbl hbA hS v1 dL_law_607 ?_
  rw [x1]
  refine lw_callV (i := 0) (as := [.int (xs (i + 1))]) (rest := []) C hZ dL_law_608 (by decide) lw_v_X9_mentioned e1 (lw_ob0 s0.1) rfl rfl (by decide +kernel) rfl (Nat.le_of_ble_eq_true rfl) (by decide +kernel) (by decide +kernel) (by omega) hl.1 hP hS (fun H locs hP hS => ?_)
  refine lv_aload_n hx hb dL_law_611 rfl (lv_at hl 2 rfl) ?_
  refine lv_aload_n hx hb dL_law_612 rfl (lv_at hl 0 rfl) ?_
  refine lv_iload_n hx hb dL_law_613 rfl (lv_at hl 3 rfl) ?_
  refine lv_iconst (v := 1) hx hb dL_law_614 (by decide) ?_
  refine lv_iadd hx hb dL_law_615 ?_
  refine va_sld hx hb hX hbl hbA hS v1 dL_law_616 ?_
  rw [x1]
  refine lw_callV (i := 33) (as := [.int (xs (i + 1))]) (rest := [.int v]) C hZ dL_law_617 (by decide) lw_v_X10_mentioned e2 (lw_ob33 (by omega)) rfl rfl (by decide +kernel) rfl (Nat.le_of_ble_eq_true rfl) (by decide +kernel) (by decide +kernel) (by omega) hl.1 hP hS (fun H locs hP hS => ?_)
  refine lv_icmp_eq (tgt := 786) hx hb dL_law_620 (by decide) (fun _ => ?_) (fun q => absurd rfl q)
  exact kk h2 H locs hI2 hP hS
theorem lw_case_17 (C : lw_C p s mid meth c b Ls xs D cs Zs) (hZ : rt_Zok s.heap.size sA Zs) (hsz : ∀ h, INV h → 71 ≤ h.1 ∧ h.1 ≤ 111) (hst : ∀ as : List Value, as.length = 1 → as.all rt_isI = true → lw_pair INV mX9_owned mX10_owned as) {i : Nat} (hi : i + 6 ≤ Ls) (hL : Ls ≤ 3072) {h : rt_H} (hI : INV h) {H : Heap} {locs : List Loc} {ca : Array Slot} (hP : va_P D vwCl (rt_wd s.heap.size cs h) H) (hS : va_S (fun q => s.heap.size ≤ q) s.heap H locs) (hl : lv_has ca 4 [(0, .ref b), (1, .ref (s.heap.size + 0)), (2, .ref (s.heap.size + 33)), (3, .int (nI i))])
    (kk : ∀ (h2 : rt_H) (H1 : Heap) (locs1 : List Loc), INV h2 → va_P D vwCl (rt_wd s.heap.size cs h2) H1 → va_S (fun q => s.heap.size ≤ q) s.heap H1 locs1 → lw_W p l e s mid b below meth c H1 locs1 h2 (F0 mid 786 ca [])) : lw_W p l e s mid b below meth c H locs h (F0 mid 625 ca []) := by
  obtain ⟨⟨hx, hb, hr, hml, hown, hts, hX, hbl, hlocks, hgv⟩, hK, hN, hz⟩ := id C
  have hbA : ¬ (fun q : Nat => s.heap.size ≤ q) b := Nat.not_le.mpr hbl
  obtain ⟨v, h1, h2, e1, e2, hI2⟩ := hst [.int (xs (i + 1))] rfl rfl h hI
  have s0 := hsz h hI
  have s2 := hsz h2 hI2
  have n1 := Ev_n e1
  have n2 := Ev_n e2
  have v1 : vp_in (nI i + 1) Ls := lw_in (k := 1) (by decide) hi hL
  have x1 : xs (nI i + 1).toNatClampNeg = xs (i + 1) := lw_xs (k := 1) (by decide) hi hL
  refine lv_aload_n hx hb dL_law_625 rfl (lv_at hl 1 rfl) ?_
  refine lv_aload_n hx hb dL_law_626 rfl (lv_at hl 0 rfl) ?_
  refine lv_iload_n hx hb dL_law_627 rfl (lv_at hl 3 rfl) ?_
  refine lv_iconst (v := 1) hx hb dL_law_628 (by decide) ?_
  refine lv_iadd hx hb dL_law_629 ?_
  refine va_sld hx hb hX hbl hbA hS v1 dL_law_630 ?_
  rw [x1]
  refine lw_callV (i := 0) (as := [.int (xs (i + 1))]) (rest := []) C hZ dL_law_631 (by decide) lw_v_X9_owned e1 (lw_ob0 s0.1) rfl rfl (by decide +kernel) rfl (Nat.le_of_ble_eq_true rfl) (by decide +kernel) (by decide +kernel) (by omega) hl.1 hP hS (fun H locs hP hS => ?_)
  refine lv_aload_n hx hb dL_law_634 rfl (lv_at hl 2 rfl) ?_
  refine lv_aload_n hx hb dL_law_635 rfl (lv_at hl 0 rfl) ?_
  refine lv_iload_n hx hb dL_law_636 rfl (lv_at hl 3 rfl) ?_
  refine lv_iconst (v := 1) hx hb dL_law_637 (by decide) ?_
  refine lv_iadd hx hb dL_law_638 ?_
  refine va_sld hx hb hX hbl hbA hS v1 dL_law_639 ?_
  rw [x1]
  refine lw_callV (i := 33) (as := [.int (xs (i + 1))]) (rest := [.int v]) C hZ dL_law_640 (by decide) lw_v_X10_owned e2 (lw_ob33 (by omega)) rfl rfl (by decide +kernel) rfl (Nat.le_of_ble_eq_true rfl) (by decide +kernel) (by decide +kernel) (by omega) hl.1 hP hS (fun H locs hP hS => ?_)
  refine lv_icmp_eq (tgt := 786) hx hb dL_law_643 (by decide) (fun _ => ?_) (fun q => absurd rfl q)
  exact kk h2 H locs hI2 hP hS
theorem lw_case_18 (C : lw_C p s mid meth c b Ls xs D cs Zs) (hZ : rt_Zok s.heap.size sA Zs) (hsz : ∀ h, INV h → 71 ≤ h.1 ∧ h.1 ≤ 111) (hst : ∀ as : List Value, as.length = 1 → as.all rt_isI = true → lw_pair INV mX9_judge mX10_judge as) {i : Nat} (hi : i + 6 ≤ Ls) (hL : Ls ≤ 3072) {h : rt_H} (hI : INV h) {H : Heap} {locs : List Loc} {ca : Array Slot} (hP : va_P D vwCl (rt_wd s.heap.size cs h) H) (hS : va_S (fun q => s.heap.size ≤ q) s.heap H locs) (hl : lv_has ca 4 [(0, .ref b), (1, .ref (s.heap.size + 0)), (2, .ref (s.heap.size + 33)), (3, .int (nI i))])
    (kk : ∀ (h2 : rt_H) (H1 : Heap) (locs1 : List Loc), INV h2 → va_P D vwCl (rt_wd s.heap.size cs h2) H1 → va_S (fun q => s.heap.size ≤ q) s.heap H1 locs1 → lw_W p l e s mid b below meth c H1 locs1 h2 (F0 mid 786 ca [])) : lw_W p l e s mid b below meth c H locs h (F0 mid 648 ca []) := by
  obtain ⟨⟨hx, hb, hr, hml, hown, hts, hX, hbl, hlocks, hgv⟩, hK, hN, hz⟩ := id C
  have hbA : ¬ (fun q : Nat => s.heap.size ≤ q) b := Nat.not_le.mpr hbl
  obtain ⟨v, h1, h2, e1, e2, hI2⟩ := hst [.int (xs (i + 1))] rfl rfl h hI
  have s0 := hsz h hI
  have s2 := hsz h2 hI2
  have n1 := Ev_n e1
  have n2 := Ev_n e2
  have v1 : vp_in (nI i + 1) Ls := lw_in (k := 1) (by decide) hi hL
  have x1 : xs (nI i + 1).toNatClampNeg = xs (i + 1) := lw_xs (k := 1) (by decide) hi hL
  refine lv_aload_n hx hb dL_law_648 rfl (lv_at hl 1 rfl) ?_
  refine lv_aload_n hx hb dL_law_649 rfl (lv_at hl 0 rfl) ?_
  refine lv_iload_n hx hb dL_law_650 rfl (lv_at hl 3 rfl) ?_
  refine lv_iconst (v := 1) hx hb dL_law_651 (by decide) ?_
  refine lv_iadd hx hb dL_law_652 ?_
  refine va_sld hx hb hX hbl hbA hS v1 dL_law_653 ?_
  rw [x1]
  refine lw_callV (i := 0) (as := [.int (xs (i + 1))]) (rest := []) C hZ dL_law_654 (by decide) lw_v_X9_judge e1 (lw_ob0 s0.1) rfl rfl (by decide +kernel) rfl (Nat.le_of_ble_eq_true rfl) (by decide +kernel) (by decide +kernel) (by omega) hl.1 hP hS (fun H locs hP hS => ?_)
  refine lv_aload_n hx hb dL_law_657 rfl (lv_at hl 2 rfl) ?_
  refine lv_aload_n hx hb dL_law_658 rfl (lv_at hl 0 rfl) ?_
  refine lv_iload_n hx hb dL_law_659 rfl (lv_at hl 3 rfl) ?_
  refine lv_iconst (v := 1) hx hb dL_law_660 (by decide) ?_
  refine lv_iadd hx hb dL_law_661 ?_
  refine va_sld hx hb hX hbl hbA hS v1 dL_law_662 ?_
  rw [x1]
  refine lw_callV (i := 33) (as := [.int (xs (i + 1))]) (rest := [.int v]) C hZ dL_law_663 (by decide) lw_v_X10_judge e2 (lw_ob33 (by omega)) rfl rfl (by decide +kernel) rfl (Nat.le_of_ble_eq_true rfl) (by decide +kernel) (by decide +kernel) (by omega) hl.1 hP hS (fun H locs hP hS => ?_)
  refine lv_icmp_eq (tgt := 786) hx hb dL_law_666 (by decide) (fun _ => ?_) (fun q => absurd rfl q)
  exact kk h2 H locs hI2 hP hS
theorem lw_case_19 (C : lw_C p s mid meth c b Ls xs D cs Zs) (hZ : rt_Zok s.heap.size sA Zs) (hsz : ∀ h, INV h → 71 ≤ h.1 ∧ h.1 ≤ 111) (hst : ∀ as : List Value, as.length = 1 → as.all rt_isI = true → lw_pair INV mX9_breaks mX10_breaks as) {i : Nat} (hi : i + 6 ≤ Ls) (hL : Ls ≤ 3072) {h : rt_H} (hI : INV h) {H : Heap} {locs : List Loc} {ca : Array Slot} (hP : va_P D vwCl (rt_wd s.heap.size cs h) H) (hS : va_S (fun q => s.heap.size ≤ q) s.heap H locs) (hl : lv_has ca 4 [(0, .ref b), (1, .ref (s.heap.size + 0)), (2, .ref (s.heap.size + 33)), (3, .int (nI i))])
    (kk : ∀ (h2 : rt_H) (H1 : Heap) (locs1 : List Loc), INV h2 → va_P D vwCl (rt_wd s.heap.size cs h2) H1 → va_S (fun q => s.heap.size ≤ q) s.heap H1 locs1 → lw_W p l e s mid b below meth c H1 locs1 h2 (F0 mid 786 ca [])) : lw_W p l e s mid b below meth c H locs h (F0 mid 671 ca []) := by
  obtain ⟨⟨hx, hb, hr, hml, hown, hts, hX, hbl, hlocks, hgv⟩, hK, hN, hz⟩ := id C
  have hbA : ¬ (fun q : Nat => s.heap.size ≤ q) b := Nat.not_le.mpr hbl
  obtain ⟨v, h1, h2, e1, e2, hI2⟩ := hst [.int (xs (i + 1))] rfl rfl h hI
  have s0 := hsz h hI
  have s2 := hsz h2 hI2
  have n1 := Ev_n e1
  have n2 := Ev_n e2
  have v1 : vp_in (nI i + 1) Ls := lw_in (k := 1) (by decide) hi hL
  have x1 : xs (nI i + 1).toNatClampNeg = xs (i + 1) := lw_xs (k := 1) (by decide) hi hL
  refine lv_aload_n hx hb dL_law_671 rfl (lv_at hl 1 rfl) ?_
  refine lv_aload_n hx hb dL_law_672 rfl (lv_at hl 0 rfl) ?_
  refine lv_iload_n hx hb dL_law_673 rfl (lv_at hl 3 rfl) ?_
  refine lv_iconst (v := 1) hx hb dL_law_674 (by decide) ?_
  refine lv_iadd hx hb dL_law_675 ?_
  refine va_sld hx hb hX hbl hbA hS v1 dL_law_676 ?_
  rw [x1]
  refine lw_callV (i := 0) (as := [.int (xs (i + 1))]) (rest := []) C hZ dL_law_677 (by decide) lw_v_X9_breaks e1 (lw_ob0 s0.1) rfl rfl (by decide +kernel) rfl (Nat.le_of_ble_eq_true rfl) (by decide +kernel) (by decide +kernel) (by omega) hl.1 hP hS (fun H locs hP hS => ?_)
  refine lv_aload_n hx hb dL_law_680 rfl (lv_at hl 2 rfl) ?_
  refine lv_aload_n hx hb dL_law_681 rfl (lv_at hl 0 rfl) ?_
  refine lv_iload_n hx hb dL_law_682 rfl (lv_at hl 3 rfl) ?_
  refine lv_iconst (v := 1) hx hb dL_law_683 (by decide) ?_
  refine lv_iadd hx hb dL_law_684 ?_
  refine va_sld hx hb hX hbl hbA hS v1 dL_law_685 ?_
  rw [x1]
  refine lw_callV (i := 33) (as := [.int (xs (i + 1))]) (rest := [.int v]) C hZ dL_law_686 (by decide) lw_v_X10_breaks e2 (lw_ob33 (by omega)) rfl rfl (by decide +kernel) rfl (Nat.le_of_ble_eq_true rfl) (by decide +kernel) (by decide +kernel) (by omega) hl.1 hP hS (fun H locs hP hS => ?_)
  refine lv_icmp_eq (tgt := 786) hx hb dL_law_689 (by decide) (fun _ => ?_) (fun q => absurd rfl q)
  exact kk h2 H locs hI2 hP hS
theorem lw_case_20 (C : lw_C p s mid meth c b Ls xs D cs Zs) (hZ : rt_Zok s.heap.size sA Zs) (hsz : ∀ h, INV h → 71 ≤ h.1 ∧ h.1 ≤ 111) (hst : ∀ as : List Value, as.length = 1 → as.all rt_isI = true → lw_pair INV mX9_acts mX10_acts as) {i : Nat} (hi : i + 6 ≤ Ls) (hL : Ls ≤ 3072) {h : rt_H} (hI : INV h) {H : Heap} {locs : List Loc} {ca : Array Slot} (hP : va_P D vwCl (rt_wd s.heap.size cs h) H) (hS : va_S (fun q => s.heap.size ≤ q) s.heap H locs) (hl : lv_has ca 4 [(0, .ref b), (1, .ref (s.heap.size + 0)), (2, .ref (s.heap.size + 33)), (3, .int (nI i))])
    (kk : ∀ (h2 : rt_H) (H1 : Heap) (locs1 : List Loc), INV h2 → va_P D vwCl (rt_wd s.heap.size cs h2) H1 → va_S (fun q => s.heap.size ≤ q) s.heap H1 locs1 → lw_W p l e s mid b below meth c H1 locs1 h2 (F0 mid 786 ca [])) : lw_W p l e s mid b below meth c H locs h (F0 mid 694 ca []) := by
  obtain ⟨⟨hx, hb, hr, hml, hown, hts, hX, hbl, hlocks, hgv⟩, hK, hN, hz⟩ := id C
  have hbA : ¬ (fun q : Nat => s.heap.size ≤ q) b := Nat.not_le.mpr hbl
  obtain ⟨v, h1, h2, e1, e2, hI2⟩ := hst [.int (xs (i + 1))] rfl rfl h hI
  have s0 := hsz h hI
  have s2 := hsz h2 hI2
  have n1 := Ev_n e1
  have n2 := Ev_n e2
  have v1 : vp_in (nI i + 1) Ls := lw_in (k := 1) (by decide) hi hL
  have x1 : xs (nI i + 1).toNatClampNeg = xs (i + 1) := lw_xs (k := 1) (by decide) hi hL
  refine lv_aload_n hx hb dL_law_694 rfl (lv_at hl 1 rfl) ?_
  refine lv_aload_n hx hb dL_law_695 rfl (lv_at hl 0 rfl) ?_
  refine lv_iload_n hx hb dL_law_696 rfl (lv_at hl 3 rfl) ?_
  refine lv_iconst (v := 1) hx hb dL_law_697 (by decide) ?_
  refine lv_iadd hx hb dL_law_698 ?_
  refine va_sld hx hb hX hbl hbA hS v1 dL_law_699 ?_
  rw [x1]
  refine lw_callV (i := 0) (as := [.int (xs (i + 1))]) (rest := []) C hZ dL_law_700 (by decide) lw_v_X9_acts e1 (lw_ob0 s0.1) rfl rfl (by decide +kernel) rfl (Nat.le_of_ble_eq_true rfl) (by decide +kernel) (by decide +kernel) (by omega) hl.1 hP hS (fun H locs hP hS => ?_)
  refine lv_aload_n hx hb dL_law_703 rfl (lv_at hl 2 rfl) ?_
  refine lv_aload_n hx hb dL_law_704 rfl (lv_at hl 0 rfl) ?_
  refine lv_iload_n hx hb dL_law_705 rfl (lv_at hl 3 rfl) ?_
  refine lv_iconst (v := 1) hx hb dL_law_706 (by decide) ?_
  refine lv_iadd hx hb dL_law_707 ?_
  refine va_sld hx hb hX hbl hbA hS v1 dL_law_708 ?_
  rw [x1]
  refine lw_callV (i := 33) (as := [.int (xs (i + 1))]) (rest := [.int v]) C hZ dL_law_709 (by decide) lw_v_X10_acts e2 (lw_ob33 (by omega)) rfl rfl (by decide +kernel) rfl (Nat.le_of_ble_eq_true rfl) (by decide +kernel) (by decide +kernel) (by omega) hl.1 hP hS (fun H locs hP hS => ?_)
  refine lv_icmp_eq (tgt := 786) hx hb dL_law_712 (by decide) (fun _ => ?_) (fun q => absurd rfl q)
  exact kk h2 H locs hI2 hP hS
theorem lw_case_21 (C : lw_C p s mid meth c b Ls xs D cs Zs) (hZ : rt_Zok s.heap.size sA Zs) (hsz : ∀ h, INV h → 71 ≤ h.1 ∧ h.1 ≤ 111) (hst : ∀ as : List Value, as.length = 1 → as.all rt_isI = true → lw_pair INV mX9_noun mX10_noun as) {i : Nat} (hi : i + 6 ≤ Ls) (hL : Ls ≤ 3072) {h : rt_H} (hI : INV h) {H : Heap} {locs : List Loc} {ca : Array Slot} (hP : va_P D vwCl (rt_wd s.heap.size cs h) H) (hS : va_S (fun q => s.heap.size ≤ q) s.heap H locs) (hl : lv_has ca 4 [(0, .ref b), (1, .ref (s.heap.size + 0)), (2, .ref (s.heap.size + 33)), (3, .int (nI i))])
    (kk : ∀ (h2 : rt_H) (H1 : Heap) (locs1 : List Loc), INV h2 → va_P D vwCl (rt_wd s.heap.size cs h2) H1 → va_S (fun q => s.heap.size ≤ q) s.heap H1 locs1 → lw_W p l e s mid b below meth c H1 locs1 h2 (F0 mid 786 ca [])) : lw_W p l e s mid b below meth c H locs h (F0 mid 717 ca []) := by
  obtain ⟨⟨hx, hb, hr, hml, hown, hts, hX, hbl, hlocks, hgv⟩, hK, hN, hz⟩ := id C
  have hbA : ¬ (fun q : Nat => s.heap.size ≤ q) b := Nat.not_le.mpr hbl
  obtain ⟨v, h1, h2, e1, e2, hI2⟩ := hst [.int (xs (i + 1))] rfl rfl h hI
  have s0 := hsz h hI
  have s2 := hsz h2 hI2
  have n1 := Ev_n e1
  have n2 := Ev_n e2
  have v1 : vp_in (nI i + 1) Ls := lw_in (k := 1) (by decide) hi hL
  have x1 : xs (nI i + 1).toNatClampNeg = xs (i + 1) := lw_xs (k := 1) (by decide) hi hL
  refine lv_aload_n hx hb dL_law_717 rfl (lv_at hl 1 rfl) ?_
  refine lv_aload_n hx hb dL_law_718 rfl (lv_at hl 0 rfl) ?_
  refine lv_iload_n hx hb dL_law_719 rfl (lv_at hl 3 rfl) ?_
  refine lv_iconst (v := 1) hx hb dL_law_720 (by decide) ?_
  refine lv_iadd hx hb dL_law_721 ?_
  refine va_sld hx hb hX hbl hbA hS v1 dL_law_722 ?_
  rw [x1]
  refine lw_callV (i := 0) (as := [.int (xs (i + 1))]) (rest := []) C hZ dL_law_723 (by decide) lw_v_X9_noun e1 (lw_ob0 s0.1) rfl rfl (by decide +kernel) rfl (Nat.le_of_ble_eq_true rfl) (by decide +kernel) (by decide +kernel) (by omega) hl.1 hP hS (fun H locs hP hS => ?_)
  refine lv_aload_n hx hb dL_law_726 rfl (lv_at hl 2 rfl) ?_
  refine lv_aload_n hx hb dL_law_727 rfl (lv_at hl 0 rfl) ?_
  refine lv_iload_n hx hb dL_law_728 rfl (lv_at hl 3 rfl) ?_
  refine lv_iconst (v := 1) hx hb dL_law_729 (by decide) ?_
  refine lv_iadd hx hb dL_law_730 ?_
  refine va_sld hx hb hX hbl hbA hS v1 dL_law_731 ?_
  rw [x1]
  refine lw_callV (i := 33) (as := [.int (xs (i + 1))]) (rest := [.int v]) C hZ dL_law_732 (by decide) lw_v_X10_noun e2 (lw_ob33 (by omega)) rfl rfl (by decide +kernel) rfl (Nat.le_of_ble_eq_true rfl) (by decide +kernel) (by decide +kernel) (by omega) hl.1 hP hS (fun H locs hP hS => ?_)
  refine lv_icmp_eq (tgt := 786) hx hb dL_law_735 (by decide) (fun _ => ?_) (fun q => absurd rfl q)
  exact kk h2 H locs hI2 hP hS
theorem lw_case_22 (C : lw_C p s mid meth c b Ls xs D cs Zs) (hZ : rt_Zok s.heap.size sA Zs) (hsz : ∀ h, INV h → 71 ≤ h.1 ∧ h.1 ≤ 111) (hst : ∀ as : List Value, as.length = 1 → as.all rt_isI = true → lw_pair INV mX9_check mX10_check as) {i : Nat} (hi : i + 6 ≤ Ls) (hL : Ls ≤ 3072) {h : rt_H} (hI : INV h) {H : Heap} {locs : List Loc} {ca : Array Slot} (hP : va_P D vwCl (rt_wd s.heap.size cs h) H) (hS : va_S (fun q => s.heap.size ≤ q) s.heap H locs) (hl : lv_has ca 4 [(0, .ref b), (1, .ref (s.heap.size + 0)), (2, .ref (s.heap.size + 33)), (3, .int (nI i))])
    (kk : ∀ (h2 : rt_H) (H1 : Heap) (locs1 : List Loc), INV h2 → va_P D vwCl (rt_wd s.heap.size cs h2) H1 → va_S (fun q => s.heap.size ≤ q) s.heap H1 locs1 → lw_W p l e s mid b below meth c H1 locs1 h2 (F0 mid 786 ca [])) : lw_W p l e s mid b below meth c H locs h (F0 mid 740 ca []) := by
  obtain ⟨⟨hx, hb, hr, hml, hown, hts, hX, hbl, hlocks, hgv⟩, hK, hN, hz⟩ := id C
  have hbA : ¬ (fun q : Nat => s.heap.size ≤ q) b := Nat.not_le.mpr hbl
  obtain ⟨v, h1, h2, e1, e2, hI2⟩ := hst [.int (xs (i + 1))] rfl rfl h hI
  have s0 := hsz h hI
  have s2 := hsz h2 hI2
  have n1 := Ev_n e1
  have n2 := Ev_n e2
  have v1 : vp_in (nI i + 1) Ls := lw_in (k := 1) (by decide) hi hL
  have x1 : xs (nI i + 1).toNatClampNeg = xs (i + 1) := lw_xs (k := 1) (by decide) hi hL
  refine lv_aload_n hx hb dL_law_740 rfl (lv_at hl 1 rfl) ?_
  refine lv_aload_n hx hb dL_law_741 rfl (lv_at hl 0 rfl) ?_
  refine lv_iload_n hx hb dL_law_742 rfl (lv_at hl 3 rfl) ?_
  refine lv_iconst (v := 1) hx hb dL_law_743 (by decide) ?_
  refine lv_iadd hx hb dL_law_744 ?_
  refine va_sld hx hb hX hbl hbA hS v1 dL_law_745 ?_
  rw [x1]
  refine lw_callV (i := 0) (as := [.int (xs (i + 1))]) (rest := []) C hZ dL_law_746 (by decide) lw_v_X9_check e1 (lw_ob0 s0.1) rfl rfl (by decide +kernel) rfl (Nat.le_of_ble_eq_true rfl) (by decide +kernel) (by decide +kernel) (by omega) hl.1 hP hS (fun H locs hP hS => ?_)
  refine lv_aload_n hx hb dL_law_749 rfl (lv_at hl 2 rfl) ?_
  refine lv_aload_n hx hb dL_law_750 rfl (lv_at hl 0 rfl) ?_
  refine lv_iload_n hx hb dL_law_751 rfl (lv_at hl 3 rfl) ?_
  refine lv_iconst (v := 1) hx hb dL_law_752 (by decide) ?_
  refine lv_iadd hx hb dL_law_753 ?_
  refine va_sld hx hb hX hbl hbA hS v1 dL_law_754 ?_
  rw [x1]
  refine lw_callV (i := 33) (as := [.int (xs (i + 1))]) (rest := [.int v]) C hZ dL_law_755 (by decide) lw_v_X10_check e2 (lw_ob33 (by omega)) rfl rfl (by decide +kernel) rfl (Nat.le_of_ble_eq_true rfl) (by decide +kernel) (by decide +kernel) (by omega) hl.1 hP hS (fun H locs hP hS => ?_)
  refine lv_icmp_eq (tgt := 786) hx hb dL_law_758 (by decide) (fun _ => ?_) (fun q => absurd rfl q)
  exact kk h2 H locs hI2 hP hS
theorem lw_case_23 (C : lw_C p s mid meth c b Ls xs D cs Zs) (hZ : rt_Zok s.heap.size sA Zs) (hsz : ∀ h, INV h → 71 ≤ h.1 ∧ h.1 ≤ 111) (hst : ∀ as : List Value, as.length = 1 → as.all rt_isI = true → lw_pair INV mX9_count mX10_count as) {i : Nat} (hi : i + 6 ≤ Ls) (hL : Ls ≤ 3072) {h : rt_H} (hI : INV h) {H : Heap} {locs : List Loc} {ca : Array Slot} (hP : va_P D vwCl (rt_wd s.heap.size cs h) H) (hS : va_S (fun q => s.heap.size ≤ q) s.heap H locs) (hl : lv_has ca 4 [(0, .ref b), (1, .ref (s.heap.size + 0)), (2, .ref (s.heap.size + 33)), (3, .int (nI i))])
    (kk : ∀ (h2 : rt_H) (H1 : Heap) (locs1 : List Loc), INV h2 → va_P D vwCl (rt_wd s.heap.size cs h2) H1 → va_S (fun q => s.heap.size ≤ q) s.heap H1 locs1 → lw_W p l e s mid b below meth c H1 locs1 h2 (F0 mid 786 ca [])) : lw_W p l e s mid b below meth c H locs h (F0 mid 763 ca []) := by
  obtain ⟨⟨hx, hb, hr, hml, hown, hts, hX, hbl, hlocks, hgv⟩, hK, hN, hz⟩ := id C
  have hbA : ¬ (fun q : Nat => s.heap.size ≤ q) b := Nat.not_le.mpr hbl
  obtain ⟨v, h1, h2, e1, e2, hI2⟩ := hst [.int (xs (i + 1))] rfl rfl h hI
  have s0 := hsz h hI
  have s2 := hsz h2 hI2
  have n1 := Ev_n e1
  have n2 := Ev_n e2
  have v1 : vp_in (nI i + 1) Ls := lw_in (k := 1) (by decide) hi hL
  have x1 : xs (nI i + 1).toNatClampNeg = xs (i + 1) := lw_xs (k := 1) (by decide) hi hL
  refine lv_aload_n hx hb dL_law_763 rfl (lv_at hl 1 rfl) ?_
  refine lv_aload_n hx hb dL_law_764 rfl (lv_at hl 0 rfl) ?_
  refine lv_iload_n hx hb dL_law_765 rfl (lv_at hl 3 rfl) ?_
  refine lv_iconst (v := 1) hx hb dL_law_766 (by decide) ?_
  refine lv_iadd hx hb dL_law_767 ?_
  refine va_sld hx hb hX hbl hbA hS v1 dL_law_768 ?_
  rw [x1]
  refine lw_callV (i := 0) (as := [.int (xs (i + 1))]) (rest := []) C hZ dL_law_769 (by decide) lw_v_X9_count e1 (lw_ob0 s0.1) rfl rfl (by decide +kernel) rfl (Nat.le_of_ble_eq_true rfl) (by decide +kernel) (by decide +kernel) (by omega) hl.1 hP hS (fun H locs hP hS => ?_)
  refine lv_aload_n hx hb dL_law_772 rfl (lv_at hl 2 rfl) ?_
  refine lv_aload_n hx hb dL_law_773 rfl (lv_at hl 0 rfl) ?_
  refine lv_iload_n hx hb dL_law_774 rfl (lv_at hl 3 rfl) ?_
  refine lv_iconst (v := 1) hx hb dL_law_775 (by decide) ?_
  refine lv_iadd hx hb dL_law_776 ?_
  refine va_sld hx hb hX hbl hbA hS v1 dL_law_777 ?_
  rw [x1]
  refine lw_callV (i := 33) (as := [.int (xs (i + 1))]) (rest := [.int v]) C hZ dL_law_778 (by decide) lw_v_X10_count e2 (lw_ob33 (by omega)) rfl rfl (by decide +kernel) rfl (Nat.le_of_ble_eq_true rfl) (by decide +kernel) (by decide +kernel) (by omega) hl.1 hP hS (fun H locs hP hS => ?_)
  refine lv_icmp_eq (tgt := 786) hx hb dL_law_781 (by decide) (fun _ => ?_) (fun q => absurd rfl q)
  exact kk h2 H locs hI2 hP hS
end LWC

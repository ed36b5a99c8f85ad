section HLC
variable {D : va_G} {cy : Nat → ClassId} {ad bd : Nat → Nat} {H H1 : Heap} {x : HM}
theorem hm_keep (hom : hm_ok bd) (hdis : ∀ i, i < 65 → ∀ j, j < 19 → ad i ≠ bd j) (hP : va_P D vwCl (hm_mem bd cy x) H) (hfr : ∀ q : Nat, q < H.size → ¬ hc_A ad q → H1[q]? = H[q]?) : va_P D vwCl (hm_mem bd cy x) H1 :=
  hP.kept (fun k q hq => hfr q.1 (hP k q hq).lt (fun ⟨i, hi, e⟩ => by
    obtain ⟨j, hj, e2⟩ := (hm_D hom cy x).2 k q hq
    exact hdis i hi j hj (e.symm.trans e2)))
theorem hc_keep (hoc : hc_ok ad) (hdis : ∀ i, i < 65 → ∀ j, j < 19 → ad i ≠ bd j) (hP : va_P D vwCl (hc_mem ad cy x) H) (hfr : ∀ q : Nat, q < H.size → ¬ hm_A bd q → H1[q]? = H[q]?) : va_P D vwCl (hc_mem ad cy x) H1 :=
  hP.kept (fun k q hq => hfr q.1 (hP k q hq).lt (fun ⟨j, hj, e⟩ => by
    obtain ⟨i, hi, e2⟩ := (hc_D hoc cy x).2 k q hq
    exact hdis i hi j hj (e2.symm.trans e)))
end HLC
section HLD
variable {p : Program} {l : Launch} {e : Env} {s : State} {m : MethodId} {below : List Frame} {meth : Method} {c : Code} {H : Heap} {locs : List Loc} {Q : State → Prop} {ls : Array Slot}
variable {D : va_G} {cy : Nat → ClassId} {ad bd : Nat → Nat} {b L : Nat} {xs : Nat → Int32} {x : HM} {n i : Nat}
set_option maxHeartbeats 4000000 in
set_option maxRecDepth 100000 in
theorem lc_tick (G : hs_C p s m c code #[Value.ref b] wsL_law RL D cy) (hml : c.maxLocals = 4) (hX : va_X b L xs s s.heap) (hbl : b < s.heap.size) (hoc : hc_ok ad) (hom : hm_ok bd) (hdis : ∀ i, i < 65 → ∀ j, j < 19 → ad i ≠ bd j) (hadA : ∀ i, i < 65 → s.heap.size ≤ ad i) (hbdA : ∀ j, j < 19 → s.heap.size ≤ bd j) (hv : x.Iv n) (hn : n < 512) (hi4 : i + 4 ≤ L) (hL : L ≤ 2048) (hPc : va_P D vwCl (hc_mem ad cy x) H) (hPm : va_P D vwCl (hm_mem bd cy x) H) (hS : va_S (fun q : Nat => s.heap.size ≤ q) s.heap H locs) (hl : lv_has ls 4 [(3, .int (nI i)), (0, .ref b), (1, .ref (ad 0)), (2, .ref (bd 0))])
    (kk : ∀ (H1 : Heap) (locs1 : List Loc), va_P D vwCl (hc_mem ad cy (x.tickM (xs (i + 1)) (xs (i + 2)))) H1 → va_P D vwCl (hm_mem bd cy (x.tickM (xs (i + 1)) (xs (i + 2)))) H1 → va_S (fun q : Nat => s.heap.size ≤ q) s.heap H1 locs1 → W p l e room_1 s m #[Value.ref b] below meth c H1 locs1 84 2559 Q (F0 m 470 ls [])) : W p l e room_1 s m #[Value.ref b] below meth c H locs 84 2559 Q (F0 m 104 ls []) := by
  have hx := G.1
  have hb := G.2.1
  have hbA : ¬ (fun q : Nat => s.heap.size ≤ q) b := Nat.not_le.mpr hbl
  refine lv_aload_n hx hb dL_law_104 rfl (lv_at hl 2 rfl) ?_
  refine lv_aload_n hx hb dL_law_105 rfl (lv_at hl 1 rfl) ?_
  refine lv_iload_n hx hb dL_law_106 rfl (lv_at hl 0 rfl) ?_
  refine lv_iconst (v := 1) hx hb dL_law_107 (by decide) ?_
  refine lv_iadd hx hb dL_law_108 ?_
  rw [show nI i + 1 = nI (i + 1) from nI_add i 1]
  refine va_sld hx hb hX hbl hbA hS (vp_in_nI (show i + 1 < L by omega) (by omega)) dL_law_109 ?_
  rw [show Int32.toNatClampNeg (nI (i + 1)) = i + 1 from nI_clamp (by omega)]
  refine lv_aload_n hx hb dL_law_110 rfl (lv_at hl 1 rfl) ?_
  refine lv_iload_n hx hb dL_law_111 rfl (lv_at hl 0 rfl) ?_
  refine lv_iconst (v := 2) hx hb dL_law_112 (by decide) ?_
  refine lv_iadd hx hb dL_law_113 ?_
  rw [show nI i + 2 = nI (i + 2) from nI_add i 2]
  refine va_sld hx hb hX hbl hbA hS (vp_in_nI (show i + 2 < L by omega) (by omega)) dL_law_114 ?_
  rw [show Int32.toNatClampNeg (nI (i + 2)) = i + 2 from nI_clamp (by omega)]
  refine hs_callV (n := 2) (As := [.int (xs (i + 1)), .int (xs (i + 2))]) (rest := []) G hml (c_tick l D cy ad hoc x (xs (i + 1)) (xs (i + 2))) gL_law_X3_tick rfl rfl rfl (by decide +kernel) ⟨Nat.le_of_ble_eq_true rfl, Nat.le_of_ble_eq_true rfl⟩ (q0 := 0) (ci := 3) rfl rfl (hc_at_top (j := 0) (by decide)) rfl hl.1 (Nat.le_of_ble_eq_true rfl) ⟨Nat.le_of_ble_eq_true rfl, Nat.le_of_ble_eq_true rfl⟩ hPc hS (fun q ⟨j, hj, eq⟩ => by rw [eq]; exact hadA j hj) rfl dL_law_115 (fun H2 locs2 hPc hS hz hfr => ?_)
  have hPm := hm_keep hom hdis hPm hfr
  refine lv_aload_n hx hb dL_law_118 rfl (lv_at hl 3 rfl) ?_
  refine lv_aload_n hx hb dL_law_119 rfl (lv_at hl 1 rfl) ?_
  refine lv_iload_n hx hb dL_law_120 rfl (lv_at hl 0 rfl) ?_
  refine lv_iconst (v := 1) hx hb dL_law_121 (by decide) ?_
  refine lv_iadd hx hb dL_law_122 ?_
  rw [show nI i + 1 = nI (i + 1) from nI_add i 1]
  refine va_sld hx hb hX hbl hbA hS (vp_in_nI (show i + 1 < L by omega) (by omega)) dL_law_123 ?_
  rw [show Int32.toNatClampNeg (nI (i + 1)) = i + 1 from nI_clamp (by omega)]
  refine lv_aload_n hx hb dL_law_124 rfl (lv_at hl 1 rfl) ?_
  refine lv_iload_n hx hb dL_law_125 rfl (lv_at hl 0 rfl) ?_
  refine lv_iconst (v := 2) hx hb dL_law_126 (by decide) ?_
  refine lv_iadd hx hb dL_law_127 ?_
  rw [show nI i + 2 = nI (i + 2) from nI_add i 2]
  refine va_sld hx hb hX hbl hbA hS (vp_in_nI (show i + 2 < L by omega) (by omega)) dL_law_128 ?_
  rw [show Int32.toNatClampNeg (nI (i + 2)) = i + 2 from nI_clamp (by omega)]
  refine hs_callV (n := 2) (As := [.int (xs (i + 1)), .int (xs (i + 2))]) (rest := [.int (x.tickA (xs (i + 1)) (xs (i + 2)))]) G hml (r_tick l D cy bd hom x _ hv.1 (xs (i + 1)) (xs (i + 2))) gL_law_X4_tick rfl rfl rfl (by decide +kernel) ⟨Nat.le_of_ble_eq_true rfl, Nat.le_of_ble_eq_true rfl⟩ (q0 := 0) (ci := 4) (fs := hm_objL bd x) rfl rfl rfl rfl hl.1 (Nat.le_of_ble_eq_true rfl) ⟨Nat.le_of_ble_eq_true rfl, Nat.le_of_ble_eq_true rfl⟩ hPm hS (fun q ⟨j, hj, eq⟩ => by rw [eq]; exact hbdA j hj) rfl dL_law_129 (fun H2 locs2 hPm hS hz hfr => ?_)
  have hPc := hc_keep hoc hdis hPc hfr
  exact lv_icmp_eq (tgt := 470) hx hb dL_law_132 (by decide) (fun _ => kk _ _ hPc hPm hS) (fun c1 => absurd rfl c1)
set_option maxHeartbeats 4000000 in
set_option maxRecDepth 100000 in
theorem lc_reading (G : hs_C p s m c code #[Value.ref b] wsL_law RL D cy) (hml : c.maxLocals = 4) (hX : va_X b L xs s s.heap) (hbl : b < s.heap.size) (hoc : hc_ok ad) (hom : hm_ok bd) (hdis : ∀ i, i < 65 → ∀ j, j < 19 → ad i ≠ bd j) (hadA : ∀ i, i < 65 → s.heap.size ≤ ad i) (hbdA : ∀ j, j < 19 → s.heap.size ≤ bd j) (hv : x.Iv n) (hn : n < 512) (hi4 : i + 4 ≤ L) (hL : L ≤ 2048) (hPc : va_P D vwCl (hc_mem ad cy x) H) (hPm : va_P D vwCl (hm_mem bd cy x) H) (hS : va_S (fun q : Nat => s.heap.size ≤ q) s.heap H locs) (hl : lv_has ls 4 [(3, .int (nI i)), (0, .ref b), (1, .ref (ad 0)), (2, .ref (bd 0))])
    (kk : ∀ (H1 : Heap) (locs1 : List Loc), va_P D vwCl (hc_mem ad cy (x)) H1 → va_P D vwCl (hm_mem bd cy (x)) H1 → va_S (fun q : Nat => s.heap.size ≤ q) s.heap H1 locs1 → W p l e room_1 s m #[Value.ref b] below meth c H1 locs1 84 2559 Q (F0 m 470 ls [])) : W p l e room_1 s m #[Value.ref b] below meth c H locs 84 2559 Q (F0 m 137 ls []) := by
  have hx := G.1
  have hb := G.2.1
  have hbA : ¬ (fun q : Nat => s.heap.size ≤ q) b := Nat.not_le.mpr hbl
  refine lv_aload_n hx hb dL_law_137 rfl (lv_at hl 2 rfl) ?_
  refine lv_aload_n hx hb dL_law_138 rfl (lv_at hl 1 rfl) ?_
  refine lv_iload_n hx hb dL_law_139 rfl (lv_at hl 0 rfl) ?_
  refine lv_iconst (v := 1) hx hb dL_law_140 (by decide) ?_
  refine lv_iadd hx hb dL_law_141 ?_
  rw [show nI i + 1 = nI (i + 1) from nI_add i 1]
  refine va_sld hx hb hX hbl hbA hS (vp_in_nI (show i + 1 < L by omega) (by omega)) dL_law_142 ?_
  rw [show Int32.toNatClampNeg (nI (i + 1)) = i + 1 from nI_clamp (by omega)]
  refine hs_callV (n := 1) (As := [.int (xs (i + 1))]) (rest := []) G hml (c_reading l D cy ad hoc x (xs (i + 1))) gL_law_X3_reading rfl rfl rfl (by decide +kernel) ⟨Nat.le_of_ble_eq_true rfl, Nat.le_of_ble_eq_true rfl⟩ (q0 := 0) (ci := 3) rfl rfl (hc_at_top (j := 0) (by decide)) rfl hl.1 (Nat.le_of_ble_eq_true rfl) ⟨Nat.le_of_ble_eq_true rfl, Nat.le_of_ble_eq_true rfl⟩ hPc hS (fun q ⟨j, hj, eq⟩ => by rw [eq]; exact hadA j hj) rfl dL_law_143 (fun H2 locs2 hPc hS hz hfr => ?_)
  have hPm := hm_keep hom hdis hPm hfr
  refine lv_aload_n hx hb dL_law_146 rfl (lv_at hl 3 rfl) ?_
  refine lv_aload_n hx hb dL_law_147 rfl (lv_at hl 1 rfl) ?_
  refine lv_iload_n hx hb dL_law_148 rfl (lv_at hl 0 rfl) ?_
  refine lv_iconst (v := 1) hx hb dL_law_149 (by decide) ?_
  refine lv_iadd hx hb dL_law_150 ?_
  rw [show nI i + 1 = nI (i + 1) from nI_add i 1]
  refine va_sld hx hb hX hbl hbA hS (vp_in_nI (show i + 1 < L by omega) (by omega)) dL_law_151 ?_
  rw [show Int32.toNatClampNeg (nI (i + 1)) = i + 1 from nI_clamp (by omega)]
  refine hs_callV (n := 1) (As := [.int (xs (i + 1))]) (rest := [.int (x.readingA (xs (i + 1)))]) G hml (r_reading l D cy bd hom x (xs (i + 1))) gL_law_X4_reading rfl rfl rfl (by decide +kernel) ⟨Nat.le_of_ble_eq_true rfl, Nat.le_of_ble_eq_true rfl⟩ (q0 := 0) (ci := 4) (fs := hm_objL bd x) rfl rfl rfl rfl hl.1 (Nat.le_of_ble_eq_true rfl) ⟨Nat.le_of_ble_eq_true rfl, Nat.le_of_ble_eq_true rfl⟩ hPm hS (fun q ⟨j, hj, eq⟩ => by rw [eq]; exact hbdA j hj) rfl dL_law_152 (fun H2 locs2 hPm hS hz hfr => ?_)
  have hPc := hc_keep hoc hdis hPc hfr
  exact lv_icmp_eq (tgt := 470) hx hb dL_law_155 (by decide) (fun _ => kk _ _ hPc hPm hS) (fun c1 => absurd rfl c1)
set_option maxHeartbeats 4000000 in
set_option maxRecDepth 100000 in
theorem lc_clock (G : hs_C p s m c code #[Value.ref b] wsL_law RL D cy) (hml : c.maxLocals = 4) (hX : va_X b L xs s s.heap) (hbl : b < s.heap.size) (hoc : hc_ok ad) (hom : hm_ok bd) (hdis : ∀ i, i < 65 → ∀ j, j < 19 → ad i ≠ bd j) (hadA : ∀ i, i < 65 → s.heap.size ≤ ad i) (hbdA : ∀ j, j < 19 → s.heap.size ≤ bd j) (hv : x.Iv n) (hn : n < 512) (hi4 : i + 4 ≤ L) (hL : L ≤ 2048) (hPc : va_P D vwCl (hc_mem ad cy x) H) (hPm : va_P D vwCl (hm_mem bd cy x) H) (hS : va_S (fun q : Nat => s.heap.size ≤ q) s.heap H locs) (hl : lv_has ls 4 [(3, .int (nI i)), (0, .ref b), (1, .ref (ad 0)), (2, .ref (bd 0))])
    (kk : ∀ (H1 : Heap) (locs1 : List Loc), va_P D vwCl (hc_mem ad cy (x)) H1 → va_P D vwCl (hm_mem bd cy (x)) H1 → va_S (fun q : Nat => s.heap.size ≤ q) s.heap H1 locs1 → W p l e room_1 s m #[Value.ref b] below meth c H1 locs1 84 2559 Q (F0 m 470 ls [])) : W p l e room_1 s m #[Value.ref b] below meth c H locs 84 2559 Q (F0 m 160 ls []) := by
  have hx := G.1
  have hb := G.2.1
  have hbA : ¬ (fun q : Nat => s.heap.size ≤ q) b := Nat.not_le.mpr hbl
  refine lv_aload_n hx hb dL_law_160 rfl (lv_at hl 2 rfl) ?_
  refine lv_aload_n hx hb dL_law_161 rfl (lv_at hl 1 rfl) ?_
  refine lv_iload_n hx hb dL_law_162 rfl (lv_at hl 0 rfl) ?_
  refine lv_iconst (v := 1) hx hb dL_law_163 (by decide) ?_
  refine lv_iadd hx hb dL_law_164 ?_
  rw [show nI i + 1 = nI (i + 1) from nI_add i 1]
  refine va_sld hx hb hX hbl hbA hS (vp_in_nI (show i + 1 < L by omega) (by omega)) dL_law_165 ?_
  rw [show Int32.toNatClampNeg (nI (i + 1)) = i + 1 from nI_clamp (by omega)]
  refine hs_callV (n := 1) (As := [.int (xs (i + 1))]) (rest := []) G hml (c_clock l D cy ad hoc x (xs (i + 1))) gL_law_X3_clock rfl rfl rfl (by decide +kernel) ⟨Nat.le_of_ble_eq_true rfl, Nat.le_of_ble_eq_true rfl⟩ (q0 := 0) (ci := 3) rfl rfl (hc_at_top (j := 0) (by decide)) rfl hl.1 (Nat.le_of_ble_eq_true rfl) ⟨Nat.le_of_ble_eq_true rfl, Nat.le_of_ble_eq_true rfl⟩ hPc hS (fun q ⟨j, hj, eq⟩ => by rw [eq]; exact hadA j hj) rfl dL_law_166 (fun H2 locs2 hPc hS hz hfr => ?_)
  have hPm := hm_keep hom hdis hPm hfr
  refine lv_aload_n hx hb dL_law_169 rfl (lv_at hl 3 rfl) ?_
  refine lv_aload_n hx hb dL_law_170 rfl (lv_at hl 1 rfl) ?_
  refine lv_iload_n hx hb dL_law_171 rfl (lv_at hl 0 rfl) ?_
  refine lv_iconst (v := 1) hx hb dL_law_172 (by decide) ?_
  refine lv_iadd hx hb dL_law_173 ?_
  rw [show nI i + 1 = nI (i + 1) from nI_add i 1]
  refine va_sld hx hb hX hbl hbA hS (vp_in_nI (show i + 1 < L by omega) (by omega)) dL_law_174 ?_
  rw [show Int32.toNatClampNeg (nI (i + 1)) = i + 1 from nI_clamp (by omega)]
  refine hs_callV (n := 1) (As := [.int (xs (i + 1))]) (rest := [.long (x.clockA (xs (i + 1)))]) G hml (r_clock l D cy bd hom x (xs (i + 1))) gL_law_X4_clock rfl rfl rfl (by decide +kernel) ⟨Nat.le_of_ble_eq_true rfl, Nat.le_of_ble_eq_true rfl⟩ (q0 := 0) (ci := 4) (fs := hm_objL bd x) rfl rfl rfl rfl hl.1 (Nat.le_of_ble_eq_true rfl) ⟨Nat.le_of_ble_eq_true rfl, Nat.le_of_ble_eq_true rfl⟩ hPm hS (fun q ⟨j, hj, eq⟩ => by rw [eq]; exact hbdA j hj) rfl dL_law_175 (fun H2 locs2 hPm hS hz hfr => ?_)
  have hPc := hc_keep hoc hdis hPc hfr
  exact hs_leq (tgt := 470) hx hb dL_law_178 dL_law_179 (by decide) (fun _ => kk _ _ hPc hPm hS) (fun c1 => absurd rfl c1)
set_option maxHeartbeats 4000000 in
set_option maxRecDepth 100000 in
theorem lc_begin (G : hs_C p s m c code #[Value.ref b] wsL_law RL D cy) (hml : c.maxLocals = 4) (hX : va_X b L xs s s.heap) (hbl : b < s.heap.size) (hoc : hc_ok ad) (hom : hm_ok bd) (hdis : ∀ i, i < 65 → ∀ j, j < 19 → ad i ≠ bd j) (hadA : ∀ i, i < 65 → s.heap.size ≤ ad i) (hbdA : ∀ j, j < 19 → s.heap.size ≤ bd j) (hv : x.Iv n) (hn : n < 512) (hi4 : i + 4 ≤ L) (hL : L ≤ 2048) (hPc : va_P D vwCl (hc_mem ad cy x) H) (hPm : va_P D vwCl (hm_mem bd cy x) H) (hS : va_S (fun q : Nat => s.heap.size ≤ q) s.heap H locs) (hl : lv_has ls 4 [(3, .int (nI i)), (0, .ref b), (1, .ref (ad 0)), (2, .ref (bd 0))])
    (kk : ∀ (H1 : Heap) (locs1 : List Loc), va_P D vwCl (hc_mem ad cy (x.beginM (xs (i + 1)))) H1 → va_P D vwCl (hm_mem bd cy (x.beginM (xs (i + 1)))) H1 → va_S (fun q : Nat => s.heap.size ≤ q) s.heap H1 locs1 → W p l e room_1 s m #[Value.ref b] below meth c H1 locs1 84 2559 Q (F0 m 470 ls [])) : W p l e room_1 s m #[Value.ref b] below meth c H locs 84 2559 Q (F0 m 184 ls []) := by
  have hx := G.1
  have hb := G.2.1
  have hbA : ¬ (fun q : Nat => s.heap.size ≤ q) b := Nat.not_le.mpr hbl
  refine lv_aload_n hx hb dL_law_184 rfl (lv_at hl 2 rfl) ?_
  refine lv_aload_n hx hb dL_law_185 rfl (lv_at hl 1 rfl) ?_
  refine lv_iload_n hx hb dL_law_186 rfl (lv_at hl 0 rfl) ?_
  refine lv_iconst (v := 1) hx hb dL_law_187 (by decide) ?_
  refine lv_iadd hx hb dL_law_188 ?_
  rw [show nI i + 1 = nI (i + 1) from nI_add i 1]
  refine va_sld hx hb hX hbl hbA hS (vp_in_nI (show i + 1 < L by omega) (by omega)) dL_law_189 ?_
  rw [show Int32.toNatClampNeg (nI (i + 1)) = i + 1 from nI_clamp (by omega)]
  refine hs_callV (n := 1) (As := [.int (xs (i + 1))]) (rest := []) G hml (c_begin l D cy ad hoc x (xs (i + 1))) gL_law_X3_begin rfl rfl rfl (by decide +kernel) ⟨Nat.le_of_ble_eq_true rfl, Nat.le_of_ble_eq_true rfl⟩ (q0 := 0) (ci := 3) rfl rfl (hc_at_top (j := 0) (by decide)) rfl hl.1 (Nat.le_of_ble_eq_true rfl) ⟨Nat.le_of_ble_eq_true rfl, Nat.le_of_ble_eq_true rfl⟩ hPc hS (fun q ⟨j, hj, eq⟩ => by rw [eq]; exact hadA j hj) rfl dL_law_190 (fun H2 locs2 hPc hS hz hfr => ?_)
  have hPm := hm_keep hom hdis hPm hfr
  refine lv_aload_n hx hb dL_law_193 rfl (lv_at hl 3 rfl) ?_
  refine lv_aload_n hx hb dL_law_194 rfl (lv_at hl 1 rfl) ?_
  refine lv_iload_n hx hb dL_law_195 rfl (lv_at hl 0 rfl) ?_
  refine lv_iconst (v := 1) hx hb dL_law_196 (by decide) ?_
  refine lv_iadd hx hb dL_law_197 ?_
  rw [show nI i + 1 = nI (i + 1) from nI_add i 1]
  refine va_sld hx hb hX hbl hbA hS (vp_in_nI (show i + 1 < L by omega) (by omega)) dL_law_198 ?_
  rw [show Int32.toNatClampNeg (nI (i + 1)) = i + 1 from nI_clamp (by omega)]
  refine hs_callV (n := 1) (As := [.int (xs (i + 1))]) (rest := [.int (x.beginA (xs (i + 1)))]) G hml (r_begin l D cy bd hom x _ hv.1 (by omega) (xs (i + 1))) gL_law_X4_begin rfl rfl rfl (by decide +kernel) ⟨Nat.le_of_ble_eq_true rfl, Nat.le_of_ble_eq_true rfl⟩ (q0 := 0) (ci := 4) (fs := hm_objL bd x) rfl rfl rfl rfl hl.1 (Nat.le_of_ble_eq_true rfl) ⟨Nat.le_of_ble_eq_true rfl, Nat.le_of_ble_eq_true rfl⟩ hPm hS (fun q ⟨j, hj, eq⟩ => by rw [eq]; exact hbdA j hj) rfl dL_law_199 (fun H2 locs2 hPm hS hz hfr => ?_)
  have hPc := hc_keep hoc hdis hPc hfr
  exact lv_icmp_eq (tgt := 470) hx hb dL_law_202 (by decide) (fun _ => kk _ _ hPc hPm hS) (fun c1 => absurd rfl c1)
set_option maxHeartbeats 4000000 in
set_option maxRecDepth 100000 in
theorem lc_read (G : hs_C p s m c code #[Value.ref b] wsL_law RL D cy) (hml : c.maxLocals = 4) (hX : va_X b L xs s s.heap) (hbl : b < s.heap.size) (hoc : hc_ok ad) (hom : hm_ok bd) (hdis : ∀ i, i < 65 → ∀ j, j < 19 → ad i ≠ bd j) (hadA : ∀ i, i < 65 → s.heap.size ≤ ad i) (hbdA : ∀ j, j < 19 → s.heap.size ≤ bd j) (hv : x.Iv n) (hn : n < 512) (hi4 : i + 4 ≤ L) (hL : L ≤ 2048) (hPc : va_P D vwCl (hc_mem ad cy x) H) (hPm : va_P D vwCl (hm_mem bd cy x) H) (hS : va_S (fun q : Nat => s.heap.size ≤ q) s.heap H locs) (hl : lv_has ls 4 [(3, .int (nI i)), (0, .ref b), (1, .ref (ad 0)), (2, .ref (bd 0))])
    (kk : ∀ (H1 : Heap) (locs1 : List Loc), va_P D vwCl (hc_mem ad cy (x.readM (xs (i + 1)) (xs (i + 2)))) H1 → va_P D vwCl (hm_mem bd cy (x.readM (xs (i + 1)) (xs (i + 2)))) H1 → va_S (fun q : Nat => s.heap.size ≤ q) s.heap H1 locs1 → W p l e room_1 s m #[Value.ref b] below meth c H1 locs1 84 2559 Q (F0 m 470 ls [])) : W p l e room_1 s m #[Value.ref b] below meth c H locs 84 2559 Q (F0 m 207 ls []) := by
  have hx := G.1
  have hb := G.2.1
  have hbA : ¬ (fun q : Nat => s.heap.size ≤ q) b := Nat.not_le.mpr hbl
  refine lv_aload_n hx hb dL_law_207 rfl (lv_at hl 2 rfl) ?_
  refine lv_aload_n hx hb dL_law_208 rfl (lv_at hl 1 rfl) ?_
  refine lv_iload_n hx hb dL_law_209 rfl (lv_at hl 0 rfl) ?_
  refine lv_iconst (v := 1) hx hb dL_law_210 (by decide) ?_
  refine lv_iadd hx hb dL_law_211 ?_
  rw [show nI i + 1 = nI (i + 1) from nI_add i 1]
  refine va_sld hx hb hX hbl hbA hS (vp_in_nI (show i + 1 < L by omega) (by omega)) dL_law_212 ?_
  rw [show Int32.toNatClampNeg (nI (i + 1)) = i + 1 from nI_clamp (by omega)]
  refine lv_aload_n hx hb dL_law_213 rfl (lv_at hl 1 rfl) ?_
  refine lv_iload_n hx hb dL_law_214 rfl (lv_at hl 0 rfl) ?_
  refine lv_iconst (v := 2) hx hb dL_law_215 (by decide) ?_
  refine lv_iadd hx hb dL_law_216 ?_
  rw [show nI i + 2 = nI (i + 2) from nI_add i 2]
  refine va_sld hx hb hX hbl hbA hS (vp_in_nI (show i + 2 < L by omega) (by omega)) dL_law_217 ?_
  rw [show Int32.toNatClampNeg (nI (i + 2)) = i + 2 from nI_clamp (by omega)]
  refine hs_callV (n := 2) (As := [.int (xs (i + 1)), .int (xs (i + 2))]) (rest := []) G hml (c_read l D cy ad hoc x _ hv.1 (by omega) (hv.bi (by omega)) (xs (i + 1)) (xs (i + 2))) gL_law_X3_read rfl rfl rfl (by decide +kernel) ⟨Nat.le_of_ble_eq_true rfl, Nat.le_of_ble_eq_true rfl⟩ (q0 := 0) (ci := 3) rfl rfl (hc_at_top (j := 0) (by decide)) rfl hl.1 (Nat.le_of_ble_eq_true rfl) ⟨Nat.le_of_ble_eq_true rfl, Nat.le_of_ble_eq_true rfl⟩ hPc hS (fun q ⟨j, hj, eq⟩ => by rw [eq]; exact hadA j hj) rfl dL_law_218 (fun H2 locs2 hPc hS hz hfr => ?_)
  have hPm := hm_keep hom hdis hPm hfr
  refine lv_aload_n hx hb dL_law_221 rfl (lv_at hl 3 rfl) ?_
  refine lv_aload_n hx hb dL_law_222 rfl (lv_at hl 1 rfl) ?_
  refine lv_iload_n hx hb dL_law_223 rfl (lv_at hl 0 rfl) ?_
  refine lv_iconst (v := 1) hx hb dL_law_224 (by decide) ?_
  refine lv_iadd hx hb dL_law_225 ?_
  rw [show nI i + 1 = nI (i + 1) from nI_add i 1]
  refine va_sld hx hb hX hbl hbA hS (vp_in_nI (show i + 1 < L by omega) (by omega)) dL_law_226 ?_
  rw [show Int32.toNatClampNeg (nI (i + 1)) = i + 1 from nI_clamp (by omega)]
  refine lv_aload_n hx hb dL_law_227 rfl (lv_at hl 1 rfl) ?_
  refine lv_iload_n hx hb dL_law_228 rfl (lv_at hl 0 rfl) ?_
  refine lv_iconst (v := 2) hx hb dL_law_229 (by decide) ?_
  refine lv_iadd hx hb dL_law_230 ?_
  rw [show nI i + 2 = nI (i + 2) from nI_add i 2]
  refine va_sld hx hb hX hbl hbA hS (vp_in_nI (show i + 2 < L by omega) (by omega)) dL_law_231 ?_
  rw [show Int32.toNatClampNeg (nI (i + 2)) = i + 2 from nI_clamp (by omega)]
  refine hs_callV (n := 2) (As := [.int (xs (i + 1)), .int (xs (i + 2))]) (rest := [.long (x.readA (xs (i + 1)) (xs (i + 2)))]) G hml (r_read l D cy bd hom x _ hv.1 (by omega) hv.2.1 (hv.bi (by omega)) (xs (i + 1)) (xs (i + 2))) gL_law_X4_read rfl rfl rfl (by decide +kernel) ⟨Nat.le_of_ble_eq_true rfl, Nat.le_of_ble_eq_true rfl⟩ (q0 := 0) (ci := 4) (fs := hm_objL bd x) rfl rfl rfl rfl hl.1 (Nat.le_of_ble_eq_true rfl) ⟨Nat.le_of_ble_eq_true rfl, Nat.le_of_ble_eq_true rfl⟩ hPm hS (fun q ⟨j, hj, eq⟩ => by rw [eq]; exact hbdA j hj) rfl dL_law_232 (fun H2 locs2 hPm hS hz hfr => ?_)
  have hPc := hc_keep hoc hdis hPc hfr
  exact hs_leq (tgt := 470) hx hb dL_law_235 dL_law_236 (by decide) (fun _ => kk _ _ hPc hPm hS) (fun c1 => absurd rfl c1)
set_option maxHeartbeats 4000000 in
set_option maxRecDepth 100000 in
theorem lc_write (G : hs_C p s m c code #[Value.ref b] wsL_law RL D cy) (hml : c.maxLocals = 4) (hX : va_X b L xs s s.heap) (hbl : b < s.heap.size) (hoc : hc_ok ad) (hom : hm_ok bd) (hdis : ∀ i, i < 65 → ∀ j, j < 19 → ad i ≠ bd j) (hadA : ∀ i, i < 65 → s.heap.size ≤ ad i) (hbdA : ∀ j, j < 19 → s.heap.size ≤ bd j) (hv : x.Iv n) (hn : n < 512) (hi4 : i + 4 ≤ L) (hL : L ≤ 2048) (hPc : va_P D vwCl (hc_mem ad cy x) H) (hPm : va_P D vwCl (hm_mem bd cy x) H) (hS : va_S (fun q : Nat => s.heap.size ≤ q) s.heap H locs) (hl : lv_has ls 4 [(3, .int (nI i)), (0, .ref b), (1, .ref (ad 0)), (2, .ref (bd 0))])
    (kk : ∀ (H1 : Heap) (locs1 : List Loc), va_P D vwCl (hc_mem ad cy (x.writeM (xs (i + 1)) (xs (i + 2)) (xs (i + 3)))) H1 → va_P D vwCl (hm_mem bd cy (x.writeM (xs (i + 1)) (xs (i + 2)) (xs (i + 3)))) H1 → va_S (fun q : Nat => s.heap.size ≤ q) s.heap H1 locs1 → W p l e room_1 s m #[Value.ref b] below meth c H1 locs1 84 2559 Q (F0 m 470 ls [])) : W p l e room_1 s m #[Value.ref b] below meth c H locs 84 2559 Q (F0 m 241 ls []) := by
  have hx := G.1
  have hb := G.2.1
  have hbA : ¬ (fun q : Nat => s.heap.size ≤ q) b := Nat.not_le.mpr hbl
  refine lv_aload_n hx hb dL_law_241 rfl (lv_at hl 2 rfl) ?_
  refine lv_aload_n hx hb dL_law_242 rfl (lv_at hl 1 rfl) ?_
  refine lv_iload_n hx hb dL_law_243 rfl (lv_at hl 0 rfl) ?_
  refine lv_iconst (v := 1) hx hb dL_law_244 (by decide) ?_
  refine lv_iadd hx hb dL_law_245 ?_
  rw [show nI i + 1 = nI (i + 1) from nI_add i 1]
  refine va_sld hx hb hX hbl hbA hS (vp_in_nI (show i + 1 < L by omega) (by omega)) dL_law_246 ?_
  rw [show Int32.toNatClampNeg (nI (i + 1)) = i + 1 from nI_clamp (by omega)]
  refine lv_aload_n hx hb dL_law_247 rfl (lv_at hl 1 rfl) ?_
  refine lv_iload_n hx hb dL_law_248 rfl (lv_at hl 0 rfl) ?_
  refine lv_iconst (v := 2) hx hb dL_law_249 (by decide) ?_
  refine lv_iadd hx hb dL_law_250 ?_
  rw [show nI i + 2 = nI (i + 2) from nI_add i 2]
  refine va_sld hx hb hX hbl hbA hS (vp_in_nI (show i + 2 < L by omega) (by omega)) dL_law_251 ?_
  rw [show Int32.toNatClampNeg (nI (i + 2)) = i + 2 from nI_clamp (by omega)]
  refine lv_aload_n hx hb dL_law_252 rfl (lv_at hl 1 rfl) ?_
  refine lv_iload_n hx hb dL_law_253 rfl (lv_at hl 0 rfl) ?_
  refine lv_iconst (v := 3) hx hb dL_law_254 (by decide) ?_
  refine lv_iadd hx hb dL_law_255 ?_
  rw [show nI i + 3 = nI (i + 3) from nI_add i 3]
  refine va_sld hx hb hX hbl hbA hS (vp_in_nI (show i + 3 < L by omega) (by omega)) dL_law_256 ?_
  rw [show Int32.toNatClampNeg (nI (i + 3)) = i + 3 from nI_clamp (by omega)]
  refine hs_callV (n := 3) (As := [.int (xs (i + 1)), .int (xs (i + 2)), .int (xs (i + 3))]) (rest := []) G hml (c_write l D cy ad hoc x _ hv.1 (by omega) (hv.bi (by omega)) (xs (i + 1)) (xs (i + 2)) (xs (i + 3))) gL_law_X3_write rfl rfl rfl (by decide +kernel) ⟨Nat.le_of_ble_eq_true rfl, Nat.le_of_ble_eq_true rfl⟩ (q0 := 0) (ci := 3) rfl rfl (hc_at_top (j := 0) (by decide)) rfl hl.1 (Nat.le_of_ble_eq_true rfl) ⟨Nat.le_of_ble_eq_true rfl, Nat.le_of_ble_eq_true rfl⟩ hPc hS (fun q ⟨j, hj, eq⟩ => by rw [eq]; exact hadA j hj) rfl dL_law_257 (fun H2 locs2 hPc hS hz hfr => ?_)
  have hPm := hm_keep hom hdis hPm hfr
  refine lv_aload_n hx hb dL_law_260 rfl (lv_at hl 3 rfl) ?_
  refine lv_aload_n hx hb dL_law_261 rfl (lv_at hl 1 rfl) ?_
  refine lv_iload_n hx hb dL_law_262 rfl (lv_at hl 0 rfl) ?_
  refine lv_iconst (v := 1) hx hb dL_law_263 (by decide) ?_
  refine lv_iadd hx hb dL_law_264 ?_
  rw [show nI i + 1 = nI (i + 1) from nI_add i 1]
  refine va_sld hx hb hX hbl hbA hS (vp_in_nI (show i + 1 < L by omega) (by omega)) dL_law_265 ?_
  rw [show Int32.toNatClampNeg (nI (i + 1)) = i + 1 from nI_clamp (by omega)]
  refine lv_aload_n hx hb dL_law_266 rfl (lv_at hl 1 rfl) ?_
  refine lv_iload_n hx hb dL_law_267 rfl (lv_at hl 0 rfl) ?_
  refine lv_iconst (v := 2) hx hb dL_law_268 (by decide) ?_
  refine lv_iadd hx hb dL_law_269 ?_
  rw [show nI i + 2 = nI (i + 2) from nI_add i 2]
  refine va_sld hx hb hX hbl hbA hS (vp_in_nI (show i + 2 < L by omega) (by omega)) dL_law_270 ?_
  rw [show Int32.toNatClampNeg (nI (i + 2)) = i + 2 from nI_clamp (by omega)]
  refine lv_aload_n hx hb dL_law_271 rfl (lv_at hl 1 rfl) ?_
  refine lv_iload_n hx hb dL_law_272 rfl (lv_at hl 0 rfl) ?_
  refine lv_iconst (v := 3) hx hb dL_law_273 (by decide) ?_
  refine lv_iadd hx hb dL_law_274 ?_
  rw [show nI i + 3 = nI (i + 3) from nI_add i 3]
  refine va_sld hx hb hX hbl hbA hS (vp_in_nI (show i + 3 < L by omega) (by omega)) dL_law_275 ?_
  rw [show Int32.toNatClampNeg (nI (i + 3)) = i + 3 from nI_clamp (by omega)]
  refine hs_callV (n := 3) (As := [.int (xs (i + 1)), .int (xs (i + 2)), .int (xs (i + 3))]) (rest := [.int (x.writeA (xs (i + 1)) (xs (i + 2)))]) G hml (r_write l D cy bd hom x _ hv.1 (by omega) hv.2.1 (hv.bi (by omega)) (xs (i + 1)) (xs (i + 2)) (xs (i + 3))) gL_law_X4_write rfl rfl rfl (by decide +kernel) ⟨Nat.le_of_ble_eq_true rfl, Nat.le_of_ble_eq_true rfl⟩ (q0 := 0) (ci := 4) (fs := hm_objL bd x) rfl rfl rfl rfl hl.1 (Nat.le_of_ble_eq_true rfl) ⟨Nat.le_of_ble_eq_true rfl, Nat.le_of_ble_eq_true rfl⟩ hPm hS (fun q ⟨j, hj, eq⟩ => by rw [eq]; exact hbdA j hj) rfl dL_law_276 (fun H2 locs2 hPm hS hz hfr => ?_)
  have hPc := hc_keep hoc hdis hPc hfr
  exact lv_icmp_eq (tgt := 470) hx hb dL_law_279 (by decide) (fun _ => kk _ _ hPc hPm hS) (fun c1 => absurd rfl c1)
set_option maxHeartbeats 4000000 in
set_option maxRecDepth 100000 in
theorem lc_commit (G : hs_C p s m c code #[Value.ref b] wsL_law RL D cy) (hml : c.maxLocals = 4) (hX : va_X b L xs s s.heap) (hbl : b < s.heap.size) (hoc : hc_ok ad) (hom : hm_ok bd) (hdis : ∀ i, i < 65 → ∀ j, j < 19 → ad i ≠ bd j) (hadA : ∀ i, i < 65 → s.heap.size ≤ ad i) (hbdA : ∀ j, j < 19 → s.heap.size ≤ bd j) (hv : x.Iv n) (hn : n < 512) (hi4 : i + 4 ≤ L) (hL : L ≤ 2048) (hPc : va_P D vwCl (hc_mem ad cy x) H) (hPm : va_P D vwCl (hm_mem bd cy x) H) (hS : va_S (fun q : Nat => s.heap.size ≤ q) s.heap H locs) (hl : lv_has ls 4 [(3, .int (nI i)), (0, .ref b), (1, .ref (ad 0)), (2, .ref (bd 0))])
    (kk : ∀ (H1 : Heap) (locs1 : List Loc), va_P D vwCl (hc_mem ad cy (x.commitM (xs (i + 1)))) H1 → va_P D vwCl (hm_mem bd cy (x.commitM (xs (i + 1)))) H1 → va_S (fun q : Nat => s.heap.size ≤ q) s.heap H1 locs1 → W p l e room_1 s m #[Value.ref b] below meth c H1 locs1 84 2559 Q (F0 m 470 ls [])) : W p l e room_1 s m #[Value.ref b] below meth c H locs 84 2559 Q (F0 m 284 ls []) := by
  have hx := G.1
  have hb := G.2.1
  have hbA : ¬ (fun q : Nat => s.heap.size ≤ q) b := Nat.not_le.mpr hbl
  refine lv_aload_n hx hb dL_law_284 rfl (lv_at hl 2 rfl) ?_
  refine lv_aload_n hx hb dL_law_285 rfl (lv_at hl 1 rfl) ?_
  refine lv_iload_n hx hb dL_law_286 rfl (lv_at hl 0 rfl) ?_
  refine lv_iconst (v := 1) hx hb dL_law_287 (by decide) ?_
  refine lv_iadd hx hb dL_law_288 ?_
  rw [show nI i + 1 = nI (i + 1) from nI_add i 1]
  refine va_sld hx hb hX hbl hbA hS (vp_in_nI (show i + 1 < L by omega) (by omega)) dL_law_289 ?_
  rw [show Int32.toNatClampNeg (nI (i + 1)) = i + 1 from nI_clamp (by omega)]
  refine hs_callV (n := 1) (As := [.int (xs (i + 1))]) (rest := []) G hml (c_commit l D cy ad hoc x _ hv.1 (by omega) (hv.cmlt hn) (xs (i + 1))) gL_law_X3_commit rfl rfl rfl (by decide +kernel) ⟨Nat.le_of_ble_eq_true rfl, Nat.le_of_ble_eq_true rfl⟩ (q0 := 0) (ci := 3) rfl rfl (hc_at_top (j := 0) (by decide)) rfl hl.1 (Nat.le_of_ble_eq_true rfl) ⟨Nat.le_of_ble_eq_true rfl, Nat.le_of_ble_eq_true rfl⟩ hPc hS (fun q ⟨j, hj, eq⟩ => by rw [eq]; exact hadA j hj) rfl dL_law_290 (fun H2 locs2 hPc hS hz hfr => ?_)
  have hPm := hm_keep hom hdis hPm hfr
  refine lv_aload_n hx hb dL_law_293 rfl (lv_at hl 3 rfl) ?_
  refine lv_aload_n hx hb dL_law_294 rfl (lv_at hl 1 rfl) ?_
  refine lv_iload_n hx hb dL_law_295 rfl (lv_at hl 0 rfl) ?_
  refine lv_iconst (v := 1) hx hb dL_law_296 (by decide) ?_
  refine lv_iadd hx hb dL_law_297 ?_
  rw [show nI i + 1 = nI (i + 1) from nI_add i 1]
  refine va_sld hx hb hX hbl hbA hS (vp_in_nI (show i + 1 < L by omega) (by omega)) dL_law_298 ?_
  rw [show Int32.toNatClampNeg (nI (i + 1)) = i + 1 from nI_clamp (by omega)]
  refine hs_callV (n := 1) (As := [.int (xs (i + 1))]) (rest := [.int (x.commitA (xs (i + 1)))]) G hml (r_commit l D cy bd hom x _ hv.1 (by omega) hv.2.1 (hv.cmlt hn) (xs (i + 1))) gL_law_X4_commit rfl rfl rfl (by decide +kernel) ⟨Nat.le_of_ble_eq_true rfl, Nat.le_of_ble_eq_true rfl⟩ (q0 := 0) (ci := 4) (fs := hm_objL bd x) rfl rfl rfl rfl hl.1 (Nat.le_of_ble_eq_true rfl) ⟨Nat.le_of_ble_eq_true rfl, Nat.le_of_ble_eq_true rfl⟩ hPm hS (fun q ⟨j, hj, eq⟩ => by rw [eq]; exact hbdA j hj) rfl dL_law_299 (fun H2 locs2 hPm hS hz hfr => ?_)
  have hPc := hc_keep hoc hdis hPc hfr
  exact lv_icmp_eq (tgt := 470) hx hb dL_law_302 (by decide) (fun _ => kk _ _ hPc hPm hS) (fun c1 => absurd rfl c1)
set_option maxHeartbeats 4000000 in
set_option maxRecDepth 100000 in
theorem lc_abort (G : hs_C p s m c code #[Value.ref b] wsL_law RL D cy) (hml : c.maxLocals = 4) (hX : va_X b L xs s s.heap) (hbl : b < s.heap.size) (hoc : hc_ok ad) (hom : hm_ok bd) (hdis : ∀ i, i < 65 → ∀ j, j < 19 → ad i ≠ bd j) (hadA : ∀ i, i < 65 → s.heap.size ≤ ad i) (hbdA : ∀ j, j < 19 → s.heap.size ≤ bd j) (hv : x.Iv n) (hn : n < 512) (hi4 : i + 4 ≤ L) (hL : L ≤ 2048) (hPc : va_P D vwCl (hc_mem ad cy x) H) (hPm : va_P D vwCl (hm_mem bd cy x) H) (hS : va_S (fun q : Nat => s.heap.size ≤ q) s.heap H locs) (hl : lv_has ls 4 [(3, .int (nI i)), (0, .ref b), (1, .ref (ad 0)), (2, .ref (bd 0))])
    (kk : ∀ (H1 : Heap) (locs1 : List Loc), va_P D vwCl (hc_mem ad cy (x.abortM (xs (i + 1)))) H1 → va_P D vwCl (hm_mem bd cy (x.abortM (xs (i + 1)))) H1 → va_S (fun q : Nat => s.heap.size ≤ q) s.heap H1 locs1 → W p l e room_1 s m #[Value.ref b] below meth c H1 locs1 84 2559 Q (F0 m 470 ls [])) : W p l e room_1 s m #[Value.ref b] below meth c H locs 84 2559 Q (F0 m 307 ls []) := by
  have hx := G.1
  have hb := G.2.1
  have hbA : ¬ (fun q : Nat => s.heap.size ≤ q) b := Nat.not_le.mpr hbl
  refine lv_aload_n hx hb dL_law_307 rfl (lv_at hl 2 rfl) ?_
  refine lv_aload_n hx hb dL_law_308 rfl (lv_at hl 1 rfl) ?_
  refine lv_iload_n hx hb dL_law_309 rfl (lv_at hl 0 rfl) ?_
  refine lv_iconst (v := 1) hx hb dL_law_310 (by decide) ?_
  refine lv_iadd hx hb dL_law_311 ?_
  rw [show nI i + 1 = nI (i + 1) from nI_add i 1]
  refine va_sld hx hb hX hbl hbA hS (vp_in_nI (show i + 1 < L by omega) (by omega)) dL_law_312 ?_
  rw [show Int32.toNatClampNeg (nI (i + 1)) = i + 1 from nI_clamp (by omega)]
  refine hs_callV (n := 1) (As := [.int (xs (i + 1))]) (rest := []) G hml (c_abort l D cy ad hoc x (xs (i + 1))) gL_law_X3_abort rfl rfl rfl (by decide +kernel) ⟨Nat.le_of_ble_eq_true rfl, Nat.le_of_ble_eq_true rfl⟩ (q0 := 0) (ci := 3) rfl rfl (hc_at_top (j := 0) (by decide)) rfl hl.1 (Nat.le_of_ble_eq_true rfl) ⟨Nat.le_of_ble_eq_true rfl, Nat.le_of_ble_eq_true rfl⟩ hPc hS (fun q ⟨j, hj, eq⟩ => by rw [eq]; exact hadA j hj) rfl dL_law_313 (fun H2 locs2 hPc hS hz hfr => ?_)
  have hPm := hm_keep hom hdis hPm hfr
  refine lv_aload_n hx hb dL_law_316 rfl (lv_at hl 3 rfl) ?_
  refine lv_aload_n hx hb dL_law_317 rfl (lv_at hl 1 rfl) ?_
  refine lv_iload_n hx hb dL_law_318 rfl (lv_at hl 0 rfl) ?_
  refine lv_iconst (v := 1) hx hb dL_law_319 (by decide) ?_
  refine lv_iadd hx hb dL_law_320 ?_
  rw [show nI i + 1 = nI (i + 1) from nI_add i 1]
  refine va_sld hx hb hX hbl hbA hS (vp_in_nI (show i + 1 < L by omega) (by omega)) dL_law_321 ?_
  rw [show Int32.toNatClampNeg (nI (i + 1)) = i + 1 from nI_clamp (by omega)]
  refine hs_callV (n := 1) (As := [.int (xs (i + 1))]) (rest := [.int (x.codeA (xs (i + 1)))]) G hml (r_abort l D cy bd hom x _ hv.1 hv.2.1 (xs (i + 1))) gL_law_X4_abort rfl rfl rfl (by decide +kernel) ⟨Nat.le_of_ble_eq_true rfl, Nat.le_of_ble_eq_true rfl⟩ (q0 := 0) (ci := 4) (fs := hm_objL bd x) rfl rfl rfl rfl hl.1 (Nat.le_of_ble_eq_true rfl) ⟨Nat.le_of_ble_eq_true rfl, Nat.le_of_ble_eq_true rfl⟩ hPm hS (fun q ⟨j, hj, eq⟩ => by rw [eq]; exact hbdA j hj) rfl dL_law_322 (fun H2 locs2 hPm hS hz hfr => ?_)
  have hPc := hc_keep hoc hdis hPc hfr
  exact lv_icmp_eq (tgt := 470) hx hb dL_law_325 (by decide) (fun _ => kk _ _ hPc hPm hS) (fun c1 => absurd rfl c1)
set_option maxHeartbeats 4000000 in
set_option maxRecDepth 100000 in
theorem lc_heartbeat (G : hs_C p s m c code #[Value.ref b] wsL_law RL D cy) (hml : c.maxLocals = 4) (hX : va_X b L xs s s.heap) (hbl : b < s.heap.size) (hoc : hc_ok ad) (hom : hm_ok bd) (hdis : ∀ i, i < 65 → ∀ j, j < 19 → ad i ≠ bd j) (hadA : ∀ i, i < 65 → s.heap.size ≤ ad i) (hbdA : ∀ j, j < 19 → s.heap.size ≤ bd j) (hv : x.Iv n) (hn : n < 512) (hi4 : i + 4 ≤ L) (hL : L ≤ 2048) (hPc : va_P D vwCl (hc_mem ad cy x) H) (hPm : va_P D vwCl (hm_mem bd cy x) H) (hS : va_S (fun q : Nat => s.heap.size ≤ q) s.heap H locs) (hl : lv_has ls 4 [(3, .int (nI i)), (0, .ref b), (1, .ref (ad 0)), (2, .ref (bd 0))])
    (kk : ∀ (H1 : Heap) (locs1 : List Loc), va_P D vwCl (hc_mem ad cy (x.heartM (xs (i + 1)))) H1 → va_P D vwCl (hm_mem bd cy (x.heartM (xs (i + 1)))) H1 → va_S (fun q : Nat => s.heap.size ≤ q) s.heap H1 locs1 → W p l e room_1 s m #[Value.ref b] below meth c H1 locs1 84 2559 Q (F0 m 470 ls [])) : W p l e room_1 s m #[Value.ref b] below meth c H locs 84 2559 Q (F0 m 330 ls []) := by
  have hx := G.1
  have hb := G.2.1
  have hbA : ¬ (fun q : Nat => s.heap.size ≤ q) b := Nat.not_le.mpr hbl
  refine lv_aload_n hx hb dL_law_330 rfl (lv_at hl 2 rfl) ?_
  refine lv_aload_n hx hb dL_law_331 rfl (lv_at hl 1 rfl) ?_
  refine lv_iload_n hx hb dL_law_332 rfl (lv_at hl 0 rfl) ?_
  refine lv_iconst (v := 1) hx hb dL_law_333 (by decide) ?_
  refine lv_iadd hx hb dL_law_334 ?_
  rw [show nI i + 1 = nI (i + 1) from nI_add i 1]
  refine va_sld hx hb hX hbl hbA hS (vp_in_nI (show i + 1 < L by omega) (by omega)) dL_law_335 ?_
  rw [show Int32.toNatClampNeg (nI (i + 1)) = i + 1 from nI_clamp (by omega)]
  refine hs_callV (n := 1) (As := [.int (xs (i + 1))]) (rest := []) G hml (c_heartbeat l D cy ad hoc x _ hv.1 (xs (i + 1))) gL_law_X3_heartbeat rfl rfl rfl (by decide +kernel) ⟨Nat.le_of_ble_eq_true rfl, Nat.le_of_ble_eq_true rfl⟩ (q0 := 0) (ci := 3) rfl rfl (hc_at_top (j := 0) (by decide)) rfl hl.1 (Nat.le_of_ble_eq_true rfl) ⟨Nat.le_of_ble_eq_true rfl, Nat.le_of_ble_eq_true rfl⟩ hPc hS (fun q ⟨j, hj, eq⟩ => by rw [eq]; exact hadA j hj) rfl dL_law_336 (fun H2 locs2 hPc hS hz hfr => ?_)
  have hPm := hm_keep hom hdis hPm hfr
  refine lv_aload_n hx hb dL_law_339 rfl (lv_at hl 3 rfl) ?_
  refine lv_aload_n hx hb dL_law_340 rfl (lv_at hl 1 rfl) ?_
  refine lv_iload_n hx hb dL_law_341 rfl (lv_at hl 0 rfl) ?_
  refine lv_iconst (v := 1) hx hb dL_law_342 (by decide) ?_
  refine lv_iadd hx hb dL_law_343 ?_
  rw [show nI i + 1 = nI (i + 1) from nI_add i 1]
  refine va_sld hx hb hX hbl hbA hS (vp_in_nI (show i + 1 < L by omega) (by omega)) dL_law_344 ?_
  rw [show Int32.toNatClampNeg (nI (i + 1)) = i + 1 from nI_clamp (by omega)]
  refine hs_callV (n := 1) (As := [.int (xs (i + 1))]) (rest := [.int (x.codeA (xs (i + 1)))]) G hml (r_heartbeat l D cy bd hom x _ hv.1 hv.2.1 (xs (i + 1))) gL_law_X4_heartbeat rfl rfl rfl (by decide +kernel) ⟨Nat.le_of_ble_eq_true rfl, Nat.le_of_ble_eq_true rfl⟩ (q0 := 0) (ci := 4) (fs := hm_objL bd x) rfl rfl rfl rfl hl.1 (Nat.le_of_ble_eq_true rfl) ⟨Nat.le_of_ble_eq_true rfl, Nat.le_of_ble_eq_true rfl⟩ hPm hS (fun q ⟨j, hj, eq⟩ => by rw [eq]; exact hbdA j hj) rfl dL_law_345 (fun H2 locs2 hPm hS hz hfr => ?_)
  have hPc := hc_keep hoc hdis hPc hfr
  exact lv_icmp_eq (tgt := 470) hx hb dL_law_348 (by decide) (fun _ => kk _ _ hPc hPm hS) (fun c1 => absurd rfl c1)
set_option maxHeartbeats 4000000 in
set_option maxRecDepth 100000 in
theorem lc_clean (G : hs_C p s m c code #[Value.ref b] wsL_law RL D cy) (hml : c.maxLocals = 4) (hX : va_X b L xs s s.heap) (hbl : b < s.heap.size) (hoc : hc_ok ad) (hom : hm_ok bd) (hdis : ∀ i, i < 65 → ∀ j, j < 19 → ad i ≠ bd j) (hadA : ∀ i, i < 65 → s.heap.size ≤ ad i) (hbdA : ∀ j, j < 19 → s.heap.size ≤ bd j) (hv : x.Iv n) (hn : n < 512) (hi4 : i + 4 ≤ L) (hL : L ≤ 2048) (hPc : va_P D vwCl (hc_mem ad cy x) H) (hPm : va_P D vwCl (hm_mem bd cy x) H) (hS : va_S (fun q : Nat => s.heap.size ≤ q) s.heap H locs) (hl : lv_has ls 4 [(3, .int (nI i)), (0, .ref b), (1, .ref (ad 0)), (2, .ref (bd 0))])
    (kk : ∀ (H1 : Heap) (locs1 : List Loc), va_P D vwCl (hc_mem ad cy (x.cleanM (xs (i + 1)))) H1 → va_P D vwCl (hm_mem bd cy (x.cleanM (xs (i + 1)))) H1 → va_S (fun q : Nat => s.heap.size ≤ q) s.heap H1 locs1 → W p l e room_1 s m #[Value.ref b] below meth c H1 locs1 84 2559 Q (F0 m 470 ls [])) : W p l e room_1 s m #[Value.ref b] below meth c H locs 84 2559 Q (F0 m 353 ls []) := by
  have hx := G.1
  have hb := G.2.1
  have hbA : ¬ (fun q : Nat => s.heap.size ≤ q) b := Nat.not_le.mpr hbl
  refine lv_aload_n hx hb dL_law_353 rfl (lv_at hl 2 rfl) ?_
  refine lv_aload_n hx hb dL_law_354 rfl (lv_at hl 1 rfl) ?_
  refine lv_iload_n hx hb dL_law_355 rfl (lv_at hl 0 rfl) ?_
  refine lv_iconst (v := 1) hx hb dL_law_356 (by decide) ?_
  refine lv_iadd hx hb dL_law_357 ?_
  rw [show nI i + 1 = nI (i + 1) from nI_add i 1]
  refine va_sld hx hb hX hbl hbA hS (vp_in_nI (show i + 1 < L by omega) (by omega)) dL_law_358 ?_
  rw [show Int32.toNatClampNeg (nI (i + 1)) = i + 1 from nI_clamp (by omega)]
  refine hs_callV (n := 1) (As := [.int (xs (i + 1))]) (rest := []) G hml (c_clean l D cy ad hoc x _ hv.1 (by omega) (xs (i + 1))) gL_law_X3_clean rfl rfl rfl (by decide +kernel) ⟨Nat.le_of_ble_eq_true rfl, Nat.le_of_ble_eq_true rfl⟩ (q0 := 0) (ci := 3) rfl rfl (hc_at_top (j := 0) (by decide)) rfl hl.1 (Nat.le_of_ble_eq_true rfl) ⟨Nat.le_of_ble_eq_true rfl, Nat.le_of_ble_eq_true rfl⟩ hPc hS (fun q ⟨j, hj, eq⟩ => by rw [eq]; exact hadA j hj) rfl dL_law_359 (fun H2 locs2 hPc hS hz hfr => ?_)
  have hPm := hm_keep hom hdis hPm hfr
  refine lv_aload_n hx hb dL_law_362 rfl (lv_at hl 3 rfl) ?_
  refine lv_aload_n hx hb dL_law_363 rfl (lv_at hl 1 rfl) ?_
  refine lv_iload_n hx hb dL_law_364 rfl (lv_at hl 0 rfl) ?_
  refine lv_iconst (v := 1) hx hb dL_law_365 (by decide) ?_
  refine lv_iadd hx hb dL_law_366 ?_
  rw [show nI i + 1 = nI (i + 1) from nI_add i 1]
  refine va_sld hx hb hX hbl hbA hS (vp_in_nI (show i + 1 < L by omega) (by omega)) dL_law_367 ?_
  rw [show Int32.toNatClampNeg (nI (i + 1)) = i + 1 from nI_clamp (by omega)]
  refine hs_callV (n := 1) (As := [.int (xs (i + 1))]) (rest := [.int (x.cleanA (xs (i + 1)))]) G hml (r_clean l D cy bd hom x _ hv.1 (by omega) (xs (i + 1))) gL_law_X4_clean rfl rfl rfl (by decide +kernel) ⟨Nat.le_of_ble_eq_true rfl, Nat.le_of_ble_eq_true rfl⟩ (q0 := 0) (ci := 4) (fs := hm_objL bd x) rfl rfl rfl rfl hl.1 (Nat.le_of_ble_eq_true rfl) ⟨Nat.le_of_ble_eq_true rfl, Nat.le_of_ble_eq_true rfl⟩ hPm hS (fun q ⟨j, hj, eq⟩ => by rw [eq]; exact hbdA j hj) rfl dL_law_368 (fun H2 locs2 hPm hS hz hfr => ?_)
  have hPc := hc_keep hoc hdis hPc hfr
  exact lv_icmp_eq (tgt := 470) hx hb dL_law_371 (by decide) (fun _ => kk _ _ hPc hPm hS) (fun c1 => absurd rfl c1)
set_option maxHeartbeats 4000000 in
set_option maxRecDepth 100000 in
theorem lc_state (G : hs_C p s m c code #[Value.ref b] wsL_law RL D cy) (hml : c.maxLocals = 4) (hX : va_X b L xs s s.heap) (hbl : b < s.heap.size) (hoc : hc_ok ad) (hom : hm_ok bd) (hdis : ∀ i, i < 65 → ∀ j, j < 19 → ad i ≠ bd j) (hadA : ∀ i, i < 65 → s.heap.size ≤ ad i) (hbdA : ∀ j, j < 19 → s.heap.size ≤ bd j) (hv : x.Iv n) (hn : n < 512) (hi4 : i + 4 ≤ L) (hL : L ≤ 2048) (hPc : va_P D vwCl (hc_mem ad cy x) H) (hPm : va_P D vwCl (hm_mem bd cy x) H) (hS : va_S (fun q : Nat => s.heap.size ≤ q) s.heap H locs) (hl : lv_has ls 4 [(3, .int (nI i)), (0, .ref b), (1, .ref (ad 0)), (2, .ref (bd 0))])
    (kk : ∀ (H1 : Heap) (locs1 : List Loc), va_P D vwCl (hc_mem ad cy (x)) H1 → va_P D vwCl (hm_mem bd cy (x)) H1 → va_S (fun q : Nat => s.heap.size ≤ q) s.heap H1 locs1 → W p l e room_1 s m #[Value.ref b] below meth c H1 locs1 84 2559 Q (F0 m 470 ls [])) : W p l e room_1 s m #[Value.ref b] below meth c H locs 84 2559 Q (F0 m 376 ls []) := by
  have hx := G.1
  have hb := G.2.1
  have hbA : ¬ (fun q : Nat => s.heap.size ≤ q) b := Nat.not_le.mpr hbl
  refine lv_aload_n hx hb dL_law_376 rfl (lv_at hl 2 rfl) ?_
  refine lv_aload_n hx hb dL_law_377 rfl (lv_at hl 1 rfl) ?_
  refine lv_iload_n hx hb dL_law_378 rfl (lv_at hl 0 rfl) ?_
  refine lv_iconst (v := 1) hx hb dL_law_379 (by decide) ?_
  refine lv_iadd hx hb dL_law_380 ?_
  rw [show nI i + 1 = nI (i + 1) from nI_add i 1]
  refine va_sld hx hb hX hbl hbA hS (vp_in_nI (show i + 1 < L by omega) (by omega)) dL_law_381 ?_
  rw [show Int32.toNatClampNeg (nI (i + 1)) = i + 1 from nI_clamp (by omega)]
  refine hs_callV (n := 1) (As := [.int (xs (i + 1))]) (rest := []) G hml (c_state l D cy ad hoc x (xs (i + 1))) gL_law_X3_state rfl rfl rfl (by decide +kernel) ⟨Nat.le_of_ble_eq_true rfl, Nat.le_of_ble_eq_true rfl⟩ (q0 := 0) (ci := 3) rfl rfl (hc_at_top (j := 0) (by decide)) rfl hl.1 (Nat.le_of_ble_eq_true rfl) ⟨Nat.le_of_ble_eq_true rfl, Nat.le_of_ble_eq_true rfl⟩ hPc hS (fun q ⟨j, hj, eq⟩ => by rw [eq]; exact hadA j hj) rfl dL_law_382 (fun H2 locs2 hPc hS hz hfr => ?_)
  have hPm := hm_keep hom hdis hPm hfr
  refine lv_aload_n hx hb dL_law_385 rfl (lv_at hl 3 rfl) ?_
  refine lv_aload_n hx hb dL_law_386 rfl (lv_at hl 1 rfl) ?_
  refine lv_iload_n hx hb dL_law_387 rfl (lv_at hl 0 rfl) ?_
  refine lv_iconst (v := 1) hx hb dL_law_388 (by decide) ?_
  refine lv_iadd hx hb dL_law_389 ?_
  rw [show nI i + 1 = nI (i + 1) from nI_add i 1]
  refine va_sld hx hb hX hbl hbA hS (vp_in_nI (show i + 1 < L by omega) (by omega)) dL_law_390 ?_
  rw [show Int32.toNatClampNeg (nI (i + 1)) = i + 1 from nI_clamp (by omega)]
  refine hs_callV (n := 1) (As := [.int (xs (i + 1))]) (rest := [.int (x.stateA (xs (i + 1)))]) G hml (r_state l D cy bd hom x (xs (i + 1))) gL_law_X4_state rfl rfl rfl (by decide +kernel) ⟨Nat.le_of_ble_eq_true rfl, Nat.le_of_ble_eq_true rfl⟩ (q0 := 0) (ci := 4) (fs := hm_objL bd x) rfl rfl rfl rfl hl.1 (Nat.le_of_ble_eq_true rfl) ⟨Nat.le_of_ble_eq_true rfl, Nat.le_of_ble_eq_true rfl⟩ hPm hS (fun q ⟨j, hj, eq⟩ => by rw [eq]; exact hbdA j hj) rfl dL_law_391 (fun H2 locs2 hPm hS hz hfr => ?_)
  have hPc := hc_keep hoc hdis hPc hfr
  exact lv_icmp_eq (tgt := 470) hx hb dL_law_394 (by decide) (fun _ => kk _ _ hPc hPm hS) (fun c1 => absurd rfl c1)
set_option maxHeartbeats 4000000 in
set_option maxRecDepth 100000 in
theorem lc_stamp (G : hs_C p s m c code #[Value.ref b] wsL_law RL D cy) (hml : c.maxLocals = 4) (hX : va_X b L xs s s.heap) (hbl : b < s.heap.size) (hoc : hc_ok ad) (hom : hm_ok bd) (hdis : ∀ i, i < 65 → ∀ j, j < 19 → ad i ≠ bd j) (hadA : ∀ i, i < 65 → s.heap.size ≤ ad i) (hbdA : ∀ j, j < 19 → s.heap.size ≤ bd j) (hv : x.Iv n) (hn : n < 512) (hi4 : i + 4 ≤ L) (hL : L ≤ 2048) (hPc : va_P D vwCl (hc_mem ad cy x) H) (hPm : va_P D vwCl (hm_mem bd cy x) H) (hS : va_S (fun q : Nat => s.heap.size ≤ q) s.heap H locs) (hl : lv_has ls 4 [(3, .int (nI i)), (0, .ref b), (1, .ref (ad 0)), (2, .ref (bd 0))])
    (kk : ∀ (H1 : Heap) (locs1 : List Loc), va_P D vwCl (hc_mem ad cy (x)) H1 → va_P D vwCl (hm_mem bd cy (x)) H1 → va_S (fun q : Nat => s.heap.size ≤ q) s.heap H1 locs1 → W p l e room_1 s m #[Value.ref b] below meth c H1 locs1 84 2559 Q (F0 m 470 ls [])) : W p l e room_1 s m #[Value.ref b] below meth c H locs 84 2559 Q (F0 m 399 ls []) := by
  have hx := G.1
  have hb := G.2.1
  have hbA : ¬ (fun q : Nat => s.heap.size ≤ q) b := Nat.not_le.mpr hbl
  refine lv_aload_n hx hb dL_law_399 rfl (lv_at hl 2 rfl) ?_
  refine lv_aload_n hx hb dL_law_400 rfl (lv_at hl 1 rfl) ?_
  refine lv_iload_n hx hb dL_law_401 rfl (lv_at hl 0 rfl) ?_
  refine lv_iconst (v := 1) hx hb dL_law_402 (by decide) ?_
  refine lv_iadd hx hb dL_law_403 ?_
  rw [show nI i + 1 = nI (i + 1) from nI_add i 1]
  refine va_sld hx hb hX hbl hbA hS (vp_in_nI (show i + 1 < L by omega) (by omega)) dL_law_404 ?_
  rw [show Int32.toNatClampNeg (nI (i + 1)) = i + 1 from nI_clamp (by omega)]
  refine hs_callV (n := 1) (As := [.int (xs (i + 1))]) (rest := []) G hml (c_stamp l D cy ad hoc x (xs (i + 1))) gL_law_X3_stamp rfl rfl rfl (by decide +kernel) ⟨Nat.le_of_ble_eq_true rfl, Nat.le_of_ble_eq_true rfl⟩ (q0 := 0) (ci := 3) rfl rfl (hc_at_top (j := 0) (by decide)) rfl hl.1 (Nat.le_of_ble_eq_true rfl) ⟨Nat.le_of_ble_eq_true rfl, Nat.le_of_ble_eq_true rfl⟩ hPc hS (fun q ⟨j, hj, eq⟩ => by rw [eq]; exact hadA j hj) rfl dL_law_405 (fun H2 locs2 hPc hS hz hfr => ?_)
  have hPm := hm_keep hom hdis hPm hfr
  refine lv_aload_n hx hb dL_law_408 rfl (lv_at hl 3 rfl) ?_
  refine lv_aload_n hx hb dL_law_409 rfl (lv_at hl 1 rfl) ?_
  refine lv_iload_n hx hb dL_law_410 rfl (lv_at hl 0 rfl) ?_
  refine lv_iconst (v := 1) hx hb dL_law_411 (by decide) ?_
  refine lv_iadd hx hb dL_law_412 ?_
  rw [show nI i + 1 = nI (i + 1) from nI_add i 1]
  refine va_sld hx hb hX hbl hbA hS (vp_in_nI (show i + 1 < L by omega) (by omega)) dL_law_413 ?_
  rw [show Int32.toNatClampNeg (nI (i + 1)) = i + 1 from nI_clamp (by omega)]
  refine hs_callV (n := 1) (As := [.int (xs (i + 1))]) (rest := [.long (x.stampA (xs (i + 1)))]) G hml (r_stamp l D cy bd hom x (xs (i + 1))) gL_law_X4_stamp rfl rfl rfl (by decide +kernel) ⟨Nat.le_of_ble_eq_true rfl, Nat.le_of_ble_eq_true rfl⟩ (q0 := 0) (ci := 4) (fs := hm_objL bd x) rfl rfl rfl rfl hl.1 (Nat.le_of_ble_eq_true rfl) ⟨Nat.le_of_ble_eq_true rfl, Nat.le_of_ble_eq_true rfl⟩ hPm hS (fun q ⟨j, hj, eq⟩ => by rw [eq]; exact hbdA j hj) rfl dL_law_414 (fun H2 locs2 hPm hS hz hfr => ?_)
  have hPc := hc_keep hoc hdis hPc hfr
  exact hs_leq (tgt := 470) hx hb dL_law_417 dL_law_418 (by decide) (fun _ => kk _ _ hPc hPm hS) (fun c1 => absurd rfl c1)
set_option maxHeartbeats 4000000 in
set_option maxRecDepth 100000 in
theorem lc_versions (G : hs_C p s m c code #[Value.ref b] wsL_law RL D cy) (hml : c.maxLocals = 4) (hX : va_X b L xs s s.heap) (hbl : b < s.heap.size) (hoc : hc_ok ad) (hom : hm_ok bd) (hdis : ∀ i, i < 65 → ∀ j, j < 19 → ad i ≠ bd j) (hadA : ∀ i, i < 65 → s.heap.size ≤ ad i) (hbdA : ∀ j, j < 19 → s.heap.size ≤ bd j) (hv : x.Iv n) (hn : n < 512) (hi4 : i + 4 ≤ L) (hL : L ≤ 2048) (hPc : va_P D vwCl (hc_mem ad cy x) H) (hPm : va_P D vwCl (hm_mem bd cy x) H) (hS : va_S (fun q : Nat => s.heap.size ≤ q) s.heap H locs) (hl : lv_has ls 4 [(3, .int (nI i)), (0, .ref b), (1, .ref (ad 0)), (2, .ref (bd 0))])
    (kk : ∀ (H1 : Heap) (locs1 : List Loc), va_P D vwCl (hc_mem ad cy (x)) H1 → va_P D vwCl (hm_mem bd cy (x)) H1 → va_S (fun q : Nat => s.heap.size ≤ q) s.heap H1 locs1 → W p l e room_1 s m #[Value.ref b] below meth c H1 locs1 84 2559 Q (F0 m 470 ls [])) : W p l e room_1 s m #[Value.ref b] below meth c H locs 84 2559 Q (F0 m 423 ls []) := by
  have hx := G.1
  have hb := G.2.1
  have hbA : ¬ (fun q : Nat => s.heap.size ≤ q) b := Nat.not_le.mpr hbl
  refine lv_aload_n hx hb dL_law_423 rfl (lv_at hl 2 rfl) ?_
  refine lv_aload_n hx hb dL_law_424 rfl (lv_at hl 1 rfl) ?_
  refine lv_iload_n hx hb dL_law_425 rfl (lv_at hl 0 rfl) ?_
  refine lv_iconst (v := 1) hx hb dL_law_426 (by decide) ?_
  refine lv_iadd hx hb dL_law_427 ?_
  rw [show nI i + 1 = nI (i + 1) from nI_add i 1]
  refine va_sld hx hb hX hbl hbA hS (vp_in_nI (show i + 1 < L by omega) (by omega)) dL_law_428 ?_
  rw [show Int32.toNatClampNeg (nI (i + 1)) = i + 1 from nI_clamp (by omega)]
  refine hs_callV (n := 1) (As := [.int (xs (i + 1))]) (rest := []) G hml (c_versions l D cy ad hoc x (xs (i + 1))) gL_law_X3_versions rfl rfl rfl (by decide +kernel) ⟨Nat.le_of_ble_eq_true rfl, Nat.le_of_ble_eq_true rfl⟩ (q0 := 0) (ci := 3) rfl rfl (hc_at_top (j := 0) (by decide)) rfl hl.1 (Nat.le_of_ble_eq_true rfl) ⟨Nat.le_of_ble_eq_true rfl, Nat.le_of_ble_eq_true rfl⟩ hPc hS (fun q ⟨j, hj, eq⟩ => by rw [eq]; exact hadA j hj) rfl dL_law_429 (fun H2 locs2 hPc hS hz hfr => ?_)
  have hPm := hm_keep hom hdis hPm hfr
  refine lv_aload_n hx hb dL_law_432 rfl (lv_at hl 3 rfl) ?_
  refine lv_aload_n hx hb dL_law_433 rfl (lv_at hl 1 rfl) ?_
  refine lv_iload_n hx hb dL_law_434 rfl (lv_at hl 0 rfl) ?_
  refine lv_iconst (v := 1) hx hb dL_law_435 (by decide) ?_
  refine lv_iadd hx hb dL_law_436 ?_
  rw [show nI i + 1 = nI (i + 1) from nI_add i 1]
  refine va_sld hx hb hX hbl hbA hS (vp_in_nI (show i + 1 < L by omega) (by omega)) dL_law_437 ?_
  rw [show Int32.toNatClampNeg (nI (i + 1)) = i + 1 from nI_clamp (by omega)]
  refine hs_callV (n := 1) (As := [.int (xs (i + 1))]) (rest := [.int (x.versionsA (xs (i + 1)))]) G hml (r_versions l D cy bd hom x _ hv.1 (xs (i + 1))) gL_law_X4_versions rfl rfl rfl (by decide +kernel) ⟨Nat.le_of_ble_eq_true rfl, Nat.le_of_ble_eq_true rfl⟩ (q0 := 0) (ci := 4) (fs := hm_objL bd x) rfl rfl rfl rfl hl.1 (Nat.le_of_ble_eq_true rfl) ⟨Nat.le_of_ble_eq_true rfl, Nat.le_of_ble_eq_true rfl⟩ hPm hS (fun q ⟨j, hj, eq⟩ => by rw [eq]; exact hbdA j hj) rfl dL_law_438 (fun H2 locs2 hPm hS hz hfr => ?_)
  have hPc := hc_keep hoc hdis hPc hfr
  exact lv_icmp_eq (tgt := 470) hx hb dL_law_441 (by decide) (fun _ => kk _ _ hPc hPm hS) (fun c1 => absurd rfl c1)
set_option maxHeartbeats 4000000 in
set_option maxRecDepth 100000 in
theorem lc_committed (G : hs_C p s m c code #[Value.ref b] wsL_law RL D cy) (hml : c.maxLocals = 4) (hX : va_X b L xs s s.heap) (hbl : b < s.heap.size) (hoc : hc_ok ad) (hom : hm_ok bd) (hdis : ∀ i, i < 65 → ∀ j, j < 19 → ad i ≠ bd j) (hadA : ∀ i, i < 65 → s.heap.size ≤ ad i) (hbdA : ∀ j, j < 19 → s.heap.size ≤ bd j) (hv : x.Iv n) (hn : n < 512) (hi4 : i + 4 ≤ L) (hL : L ≤ 2048) (hPc : va_P D vwCl (hc_mem ad cy x) H) (hPm : va_P D vwCl (hm_mem bd cy x) H) (hS : va_S (fun q : Nat => s.heap.size ≤ q) s.heap H locs) (hl : lv_has ls 4 [(3, .int (nI i)), (0, .ref b), (1, .ref (ad 0)), (2, .ref (bd 0))])
    (kk : ∀ (H1 : Heap) (locs1 : List Loc), va_P D vwCl (hc_mem ad cy (x)) H1 → va_P D vwCl (hm_mem bd cy (x)) H1 → va_S (fun q : Nat => s.heap.size ≤ q) s.heap H1 locs1 → W p l e room_1 s m #[Value.ref b] below meth c H1 locs1 84 2559 Q (F0 m 470 ls [])) : W p l e room_1 s m #[Value.ref b] below meth c H locs 84 2559 Q (F0 m 446 ls []) := by
  have hx := G.1
  have hb := G.2.1
  have hbA : ¬ (fun q : Nat => s.heap.size ≤ q) b := Nat.not_le.mpr hbl
  refine lv_aload_n hx hb dL_law_446 rfl (lv_at hl 2 rfl) ?_
  refine lv_aload_n hx hb dL_law_447 rfl (lv_at hl 1 rfl) ?_
  refine lv_iload_n hx hb dL_law_448 rfl (lv_at hl 0 rfl) ?_
  refine lv_iconst (v := 1) hx hb dL_law_449 (by decide) ?_
  refine lv_iadd hx hb dL_law_450 ?_
  rw [show nI i + 1 = nI (i + 1) from nI_add i 1]
  refine va_sld hx hb hX hbl hbA hS (vp_in_nI (show i + 1 < L by omega) (by omega)) dL_law_451 ?_
  rw [show Int32.toNatClampNeg (nI (i + 1)) = i + 1 from nI_clamp (by omega)]
  refine hs_callV (n := 1) (As := [.int (xs (i + 1))]) (rest := []) G hml (c_committed l D cy ad hoc x (hv.cm256 (by omega)) (xs (i + 1))) gL_law_X3_committed rfl rfl rfl (by decide +kernel) ⟨Nat.le_of_ble_eq_true rfl, Nat.le_of_ble_eq_true rfl⟩ (q0 := 0) (ci := 3) rfl rfl (hc_at_top (j := 0) (by decide)) rfl hl.1 (Nat.le_of_ble_eq_true rfl) ⟨Nat.le_of_ble_eq_true rfl, Nat.le_of_ble_eq_true rfl⟩ hPc hS (fun q ⟨j, hj, eq⟩ => by rw [eq]; exact hadA j hj) rfl dL_law_452 (fun H2 locs2 hPc hS hz hfr => ?_)
  have hPm := hm_keep hom hdis hPm hfr
  refine lv_aload_n hx hb dL_law_455 rfl (lv_at hl 3 rfl) ?_
  refine lv_aload_n hx hb dL_law_456 rfl (lv_at hl 1 rfl) ?_
  refine lv_iload_n hx hb dL_law_457 rfl (lv_at hl 0 rfl) ?_
  refine lv_iconst (v := 1) hx hb dL_law_458 (by decide) ?_
  refine lv_iadd hx hb dL_law_459 ?_
  rw [show nI i + 1 = nI (i + 1) from nI_add i 1]
  refine va_sld hx hb hX hbl hbA hS (vp_in_nI (show i + 1 < L by omega) (by omega)) dL_law_460 ?_
  rw [show Int32.toNatClampNeg (nI (i + 1)) = i + 1 from nI_clamp (by omega)]
  refine hs_callV (n := 1) (As := [.int (xs (i + 1))]) (rest := [.long (x.committedA (xs (i + 1)))]) G hml (r_committed l D cy bd hom x (by have := hv.cm256 (by omega); omega) (xs (i + 1))) gL_law_X4_committed rfl rfl rfl (by decide +kernel) ⟨Nat.le_of_ble_eq_true rfl, Nat.le_of_ble_eq_true rfl⟩ (q0 := 0) (ci := 4) (fs := hm_objL bd x) rfl rfl rfl rfl hl.1 (Nat.le_of_ble_eq_true rfl) ⟨Nat.le_of_ble_eq_true rfl, Nat.le_of_ble_eq_true rfl⟩ hPm hS (fun q ⟨j, hj, eq⟩ => by rw [eq]; exact hbdA j hj) rfl dL_law_461 (fun H2 locs2 hPm hS hz hfr => ?_)
  have hPc := hc_keep hoc hdis hPc hfr
  exact hs_leq (tgt := 470) hx hb dL_law_464 dL_law_465 (by decide) (fun _ => kk _ _ hPc hPm hS) (fun c1 => absurd rfl c1)
end HLD

theorem hs_len4 {L i : Nat} (hL : L ≤ 2048) (hi : i ≤ 2048) : nI L - 4 < nI i ↔ L < i + 4 := by
  have e1 : (nI L - 4).toInt = (L : Int) - 4 := by
    have h4 : (4 : Int32).toInt = 4 := by decide
    rw [Int32.toInt_sub, nI_toInt (by omega), h4]
    exact Int.bmod_eq_of_le (by omega) (by omega)
  rw [Int32.lt_iff_toInt_lt, e1, nI_toInt (by omega)]
  omega
section HLE
variable {p : Program} {l : Launch} {e : Env} {s : State} {m : MethodId} {below : List Frame} {meth : Method} {c : Code} {H : Heap} {locs : List Loc} {Q : State → Prop} {ls : Array Slot}
variable {D : va_G} {cy : Nat → ClassId} {ad bd : Nat → Nat} {b L : Nat} {xs : Nat → Int32} {x : HM} {n i : Nat}
set_option maxHeartbeats 4000000 in
set_option maxRecDepth 100000 in
theorem law_loop (G : hs_C p s m c code #[Value.ref b] wsL_law RL D cy) (hml : c.maxLocals = 4) (hr : meth.sig.returnType = ret) (hlocks : meth.locks = false) (hX : va_X b L xs s s.heap) (hbl : b < s.heap.size) (hoc : hc_ok ad) (hom : hm_ok bd) (hdis : ∀ i, i < 65 → ∀ j, j < 19 → ad i ≠ bd j) (hadA : ∀ i, i < 65 → s.heap.size ≤ ad i) (hbdA : ∀ j, j < 19 → s.heap.size ≤ bd j) (hL : L ≤ 2048) :
    ∀ (k n i : Nat) (x : HM), i = 4 * n → i ≤ 2048 → 2049 ≤ i + k → x.Iv n → ∀ (H : Heap) (locs : List Loc), va_P D vwCl (hc_mem ad cy x) H → va_P D vwCl (hm_mem bd cy x) H → va_S (fun q : Nat => s.heap.size ≤ q) s.heap H locs → ∀ (ls : Array Slot), lv_has ls 4 [(3, .int (nI i)), (0, .ref b), (1, .ref (ad 0)), (2, .ref (bd 0))] → W p l e room_1 s m #[Value.ref b] below meth c H locs 84 2559 (lw_Z below #[Value.ref b] s) (F0 m 18 ls []) := by
  have hx := G.1
  have hb := G.2.1
  have hbA : ¬ (fun q : Nat => s.heap.size ≤ q) b := Nat.not_le.mpr hbl
  intro k
  induction k with
  | zero => intro n i x h1 h2 h3; exact absurd h3 (by omega)
  | succ k ih =>
    intro n i x hin hi hk hv H locs hPc hPm hS ls hl
    refine lv_iload_n hx hb dL_law_18 rfl (lv_at hl 0 rfl) ?_
    refine lv_aload_n hx hb dL_law_19 rfl (lv_at hl 1 rfl) ?_
    refine va_slen hx hb hX hbl hbA hS dL_law_20 ?_
    refine lv_iconst (v := 4) hx hb dL_law_21 (by decide) ?_
    refine lv_isub hx hb dL_law_22 ?_
    refine lv_icmp_gt (tgt := 476) hx hb dL_law_23 (by decide) (fun c1 => ?_) (fun c1 => ?_)
    · refine lv_iconst (v := 1) hx hb dL_law_476 (by decide) ?_
      refine va_forget (fun q hq => hS.2.2 q hq) ?_
      refine W.widen (k := 600000) (n := 7302250) (by decide) (by decide) ?_
      exact lw_ret hx hb hr hlocks dL_law_477
    · have hi4 : i + 4 ≤ L := Nat.not_lt.mp (fun q => c1 ((hs_len4 hL hi).mpr q))
      have hn : n < 512 := by omega
      have K : ∀ x' : HM, x'.Iv (n + 1) → ∀ (H1 : Heap) (locs1 : List Loc), va_P D vwCl (hc_mem ad cy x') H1 → va_P D vwCl (hm_mem bd cy x') H1 → va_S (fun q : Nat => s.heap.size ≤ q) s.heap H1 locs1 → W p l e room_1 s m #[Value.ref b] below meth c H1 locs1 84 2559 (lw_Z below #[Value.ref b] s) (F0 m 470 ls []) := by
        intro x' hv' H1 locs1 hPc hPm hS
        refine lv_iinc (v := nI (i + 4)) (lv' := [(3, .int (nI (i + 4))), (0, .ref b), (1, .ref (ad 0)), (2, .ref (bd 0))]) hx hb dL_law_470 hl (k := 0) rfl (nI_add i 4) (by decide) rfl (fun ls hl => ?_)
        refine lv_goto (tgt := 18) hx hb dL_law_473 (by decide) ?_
        exact ih (n + 1) (i + 4) x' (by omega) (by omega) (by omega) hv' H1 locs1 hPc hPm hS ls hl
      refine lv_aload_n hx hb dL_law_26 rfl (lv_at hl 1 rfl) ?_
      refine lv_iload_n hx hb dL_law_27 rfl (lv_at hl 0 rfl) ?_
      refine va_sld hx hb hX hbl hbA hS (vp_in_nI (show i < L by omega) (by omega)) dL_law_28 ?_
      refine lv_bipush (v := 15) hx hb dL_law_29 (by decide) ?_
      refine lv_iand hx hb dL_law_31 ?_
      obtain ⟨j, hj, hz⟩ := pk_andE (xs (Int32.toNatClampNeg (nI i))) (m := 15) 4 (by decide)
      rw [hz]
      have hj16 : j < 16 := hj
      have hcs : j = 0 ∨ j = 1 ∨ j = 2 ∨ j = 3 ∨ j = 4 ∨ j = 5 ∨ j = 6 ∨ j = 7 ∨ j = 8 ∨ j = 9 ∨ j = 10 ∨ j = 11 ∨ j = 12 ∨ j = 13 ∨ j = 14 ∨ j = 15 := by omega
      rcases hcs with rfl | rfl | rfl | rfl | rfl | rfl | rfl | rfl | rfl | rfl | rfl | rfl | rfl | rfl | rfl | rfl
      · refine lv_tableIn (off := 72) (tgt := 104) hx hb dL_law_32 (by decide) (by decide) (by decide) (by decide) ?_
        exact lc_tick G hml hX hbl hoc hom hdis hadA hbdA hv hn hi4 hL hPc hPm hS hl (K _ (hv.tick hn _ _))
      · refine lv_tableIn (off := 105) (tgt := 137) hx hb dL_law_32 (by decide) (by decide) (by decide) (by decide) ?_
        exact lc_reading G hml hX hbl hoc hom hdis hadA hbdA hv hn hi4 hL hPc hPm hS hl (K _ hv.up)
      · refine lv_tableIn (off := 128) (tgt := 160) hx hb dL_law_32 (by decide) (by decide) (by decide) (by decide) ?_
        exact lc_clock G hml hX hbl hoc hom hdis hadA hbdA hv hn hi4 hL hPc hPm hS hl (K _ hv.up)
      · refine lv_tableIn (off := 152) (tgt := 184) hx hb dL_law_32 (by decide) (by decide) (by decide) (by decide) ?_
        exact lc_begin G hml hX hbl hoc hom hdis hadA hbdA hv hn hi4 hL hPc hPm hS hl (K _ (hv.begin hn _))
      · refine lv_tableIn (off := 175) (tgt := 207) hx hb dL_law_32 (by decide) (by decide) (by decide) (by decide) ?_
        exact lc_read G hml hX hbl hoc hom hdis hadA hbdA hv hn hi4 hL hPc hPm hS hl (K _ (hv.read hn _ _))
      · refine lv_tableIn (off := 209) (tgt := 241) hx hb dL_law_32 (by decide) (by decide) (by decide) (by decide) ?_
        exact lc_write G hml hX hbl hoc hom hdis hadA hbdA hv hn hi4 hL hPc hPm hS hl (K _ (hv.write hn _ _ _))
      · refine lv_tableIn (off := 252) (tgt := 284) hx hb dL_law_32 (by decide) (by decide) (by decide) (by decide) ?_
        exact lc_commit G hml hX hbl hoc hom hdis hadA hbdA hv hn hi4 hL hPc hPm hS hl (K _ (hv.commit hn _))
      · refine lv_tableIn (off := 275) (tgt := 307) hx hb dL_law_32 (by decide) (by decide) (by decide) (by decide) ?_
        exact lc_abort G hml hX hbl hoc hom hdis hadA hbdA hv hn hi4 hL hPc hPm hS hl (K _ (hv.abort _))
      · refine lv_tableIn (off := 298) (tgt := 330) hx hb dL_law_32 (by decide) (by decide) (by decide) (by decide) ?_
        exact lc_heartbeat G hml hX hbl hoc hom hdis hadA hbdA hv hn hi4 hL hPc hPm hS hl (K _ (hv.heart hn _))
      · refine lv_tableIn (off := 321) (tgt := 353) hx hb dL_law_32 (by decide) (by decide) (by decide) (by decide) ?_
        exact lc_clean G hml hX hbl hoc hom hdis hadA hbdA hv hn hi4 hL hPc hPm hS hl (K _ (hv.clean hn _))
      · refine lv_tableIn (off := 344) (tgt := 376) hx hb dL_law_32 (by decide) (by decide) (by decide) (by decide) ?_
        exact lc_state G hml hX hbl hoc hom hdis hadA hbdA hv hn hi4 hL hPc hPm hS hl (K _ hv.up)
      · refine lv_tableIn (off := 367) (tgt := 399) hx hb dL_law_32 (by decide) (by decide) (by decide) (by decide) ?_
        exact lc_stamp G hml hX hbl hoc hom hdis hadA hbdA hv hn hi4 hL hPc hPm hS hl (K _ hv.up)
      · refine lv_tableIn (off := 391) (tgt := 423) hx hb dL_law_32 (by decide) (by decide) (by decide) (by decide) ?_
        exact lc_versions G hml hX hbl hoc hom hdis hadA hbdA hv hn hi4 hL hPc hPm hS hl (K _ hv.up)
      · refine lv_tableIn (off := 414) (tgt := 446) hx hb dL_law_32 (by decide) (by decide) (by decide) (by decide) ?_
        exact lc_committed G hml hX hbl hoc hom hdis hadA hbdA hv hn hi4 hL hPc hPm hS hl (K _ hv.up)
      · refine lv_tableOut (tgt := 470) hx hb dL_law_32 (by decide) (by decide) ?_
        exact K x hv.up H locs hPc hPm hS
      · refine lv_tableOut (tgt := 470) hx hb dL_law_32 (by decide) (by decide) ?_
        exact K x hv.up H locs hPc hPm hS
end HLE

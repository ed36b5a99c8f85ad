theorem in_X4_receive_X4 : ∀ w ∈ u_ws RX4 TX4 21, w ∈ wsX4_receive := by decide +kernel
set_option maxHeartbeats 4000000 in
set_option maxRecDepth 100000 in
/-- reference: r_receive -/
theorem r_receive (l : Launch) (D : va_G) (cy : Nat → ClassId) (bd : Nat → Nat) (ho : hm_ok bd) (x : HM) {i : Nat} (hi : i < 4) (s0 : Int64) : Ct l yX4_receive wsX4_receive ({ frames := 0, cells := 0, slots := 0, locals := 0 }) D cy (hm_A bd) [.ref (bd 0), .int (nI i), .long (s0)] (hm_mem bd cy (x)) none (hm_mem bd cy (x.tk i s0)) := by
  refine ct_of (cc := cX4_receive) (maxL := 8) (ret := none) rfl (by decide) (Nat.le_of_ble_eq_true rfl) ?_
  intro p e s m below meth c ls G hx hb hml hr hlocks hP hS hl
  have hD := hm_D ho cy (x)
  have hl : lv_has ls 8 [(0, .ref (bd 0)), (1, .int (nI i)), (2, .long (s0))] := hl
  refine lv_aload_n hx hb dX4_receive_0 rfl (lv_at hl 0 rfl) ?_
  refine hm_gf G in_X4_receive_X4 hP rfl 1 (by decide) (by decide +kernel) (.ref (bd 2)) rfl rfl dX4_receive_1 ?_
  refine lv_iload_n hx hb dX4_receive_4 rfl (lv_at hl 1 rfl) ?_
  refine hm_lL G hP 2 (HM.ck (x)) 4 rfl (i) (nI_clamp (by omega)) (hs_inN (by omega) (by decide)) (HM.ck (x) (i)) rfl dX4_receive_5 ?_
  refine lv_lload_n hx hb dX4_receive_6 rfl (lv_at hl 2 rfl) ?_
  refine hs_lle (x := HM.ck (x) (i)) (y := s0) (tgt := 20) hx hb dX4_receive_7 dX4_receive_8 (by decide) (fun c_1 => ?_) (fun c_1 => ?_)
  · refine lv_lload_n hx hb dX4_receive_20 rfl (lv_at hl 2 rfl) ?_
    refine lv_lconst (v := 1) hx hb dX4_receive_21 (by decide) ?_
    refine lv_ladd hx hb dX4_receive_22 ?_
    refine lv_lstore (lv' := [(4, .long ((s0 + 1))), (0, .ref (bd 0)), (1, .int (nI i)), (2, .long (s0))]) hx hb dX4_receive_23 hl (by decide) rfl (fun ls hl => ?_)
    refine lv_aload_n hx hb dX4_receive_25 rfl (lv_at hl 1 rfl) ?_
    refine hm_gf G in_X4_receive_X4 hP rfl 0 (by decide) (by decide +kernel) (.ref (bd 1)) rfl rfl dX4_receive_26 ?_
    refine lv_iload_n hx hb dX4_receive_29 rfl (lv_at hl 2 rfl) ?_
    refine hm_lI G hP 1 (HM.rd (x)) 4 rfl (i) (nI_clamp (by omega)) (hs_inN (by omega) (by decide)) (HM.rd (x) (i)) rfl dX4_receive_30 ?_
    refine lv_i2l (v := (Int32.toInt64 (HM.rd (x) (i)))) hx hb dX4_receive_31 rfl ?_
    refine lv_bipush (v := 20) hx hb dX4_receive_32 (by decide) ?_
    refine lv_lshl (v := ((Int32.toInt64 (HM.rd (x) (i))) <<< (Int32.toInt64 (20) &&& 63))) hx hb dX4_receive_34 rfl ?_
    rw [show (((Int32.toInt64 (HM.rd (x) (i))) <<< (Int32.toInt64 (20) &&& 63))) = (Int32.toInt64 (HM.rd (x) (i)) * 1048576) from hs_shl20 _]
    refine lv_lstore (lv' := [(6, .long ((Int32.toInt64 (HM.rd (x) (i)) * 1048576))), (4, .long ((s0 + 1))), (0, .ref (bd 0)), (1, .int (nI i)), (2, .long (s0))]) hx hb dX4_receive_35 hl (by decide) rfl (fun ls hl => ?_)
    refine lv_aload_n hx hb dX4_receive_37 rfl (lv_at hl 2 rfl) ?_
    refine hm_gf G in_X4_receive_X4 hP rfl 1 (by decide) (by decide +kernel) (.ref (bd 2)) rfl rfl dX4_receive_38 ?_
    refine lv_iload_n hx hb dX4_receive_41 rfl (lv_at hl 3 rfl) ?_
    refine lv_lload hx hb dX4_receive_42 (lv_at hl 1 rfl) ?_
    refine lv_lload hx hb dX4_receive_44 (lv_at hl 0 rfl) ?_
    refine hs_lle (x := (s0 + 1)) (y := (Int32.toInt64 (HM.rd (x) (i)) * 1048576)) (tgt := 55) hx hb dX4_receive_46 dX4_receive_47 (by decide) (fun c_2 => ?_) (fun c_2 => ?_)
    · refine lv_lload hx hb dX4_receive_55 (lv_at hl 0 rfl) ?_
      refine hm_sL G hP hD hS 2 (HM.ck (x)) 4 rfl (i) (nI_clamp (by omega)) (hs_inN (by omega) (by decide)) (hm_mem bd cy (HM.u_ck (x) (i) ((Int32.toInt64 (HM.rd (x) (i)) * 1048576)))) hm_s_ck dX4_receive_57 (fun H locs hP hD hS => ?_)
      exact ct_vret hx hb hr hlocks rfl (by rw [HM.tk, hs_tk, if_neg c_1, if_neg c_2]; exact hP) hS dX4_receive_58
    · refine lv_lload hx hb dX4_receive_50 (lv_at hl 1 rfl) ?_
      refine lv_goto (tgt := 57) hx hb dX4_receive_52 (by decide) ?_
      refine hm_sL G hP hD hS 2 (HM.ck (x)) 4 rfl (i) (nI_clamp (by omega)) (hs_inN (by omega) (by decide)) (hm_mem bd cy (HM.u_ck (x) (i) ((s0 + 1)))) hm_s_ck dX4_receive_57 (fun H locs hP hD hS => ?_)
      exact ct_vret hx hb hr hlocks rfl (by rw [HM.tk, hs_tk, if_neg c_1, if_pos c_2]; exact hP) hS dX4_receive_58
  · refine lv_aload_n hx hb dX4_receive_11 rfl (lv_at hl 0 rfl) ?_
    refine hm_gf G in_X4_receive_X4 hP rfl 1 (by decide) (by decide +kernel) (.ref (bd 2)) rfl rfl dX4_receive_12 ?_
    refine lv_iload_n hx hb dX4_receive_15 rfl (lv_at hl 1 rfl) ?_
    refine hm_lL G hP 2 (HM.ck (x)) 4 rfl (i) (nI_clamp (by omega)) (hs_inN (by omega) (by decide)) (HM.ck (x) (i)) rfl dX4_receive_16 ?_
    refine lv_goto (tgt := 21) hx hb dX4_receive_17 (by decide) ?_
    refine lv_lconst (v := 1) hx hb dX4_receive_21 (by decide) ?_
    refine lv_ladd hx hb dX4_receive_22 ?_
    refine lv_lstore (lv' := [(4, .long ((HM.ck (x) (i) + 1))), (0, .ref (bd 0)), (1, .int (nI i)), (2, .long (s0))]) hx hb dX4_receive_23 hl (by decide) rfl (fun ls hl => ?_)
    refine lv_aload_n hx hb dX4_receive_25 rfl (lv_at hl 1 rfl) ?_
    refine hm_gf G in_X4_receive_X4 hP rfl 0 (by decide) (by decide +kernel) (.ref (bd 1)) rfl rfl dX4_receive_26 ?_
    refine lv_iload_n hx hb dX4_receive_29 rfl (lv_at hl 2 rfl) ?_
    refine hm_lI G hP 1 (HM.rd (x)) 4 rfl (i) (nI_clamp (by omega)) (hs_inN (by omega) (by decide)) (HM.rd (x) (i)) rfl dX4_receive_30 ?_
    refine lv_i2l (v := (Int32.toInt64 (HM.rd (x) (i)))) hx hb dX4_receive_31 rfl ?_
    refine lv_bipush (v := 20) hx hb dX4_receive_32 (by decide) ?_
    refine lv_lshl (v := ((Int32.toInt64 (HM.rd (x) (i))) <<< (Int32.toInt64 (20) &&& 63))) hx hb dX4_receive_34 rfl ?_
    rw [show (((Int32.toInt64 (HM.rd (x) (i))) <<< (Int32.toInt64 (20) &&& 63))) = (Int32.toInt64 (HM.rd (x) (i)) * 1048576) from hs_shl20 _]
    refine lv_lstore (lv' := [(6, .long ((Int32.toInt64 (HM.rd (x) (i)) * 1048576))), (4, .long ((HM.ck (x) (i) + 1))), (0, .ref (bd 0)), (1, .int (nI i)), (2, .long (s0))]) hx hb dX4_receive_35 hl (by decide) rfl (fun ls hl => ?_)
    refine lv_aload_n hx hb dX4_receive_37 rfl (lv_at hl 2 rfl) ?_
    refine hm_gf G in_X4_receive_X4 hP rfl 1 (by decide) (by decide +kernel) (.ref (bd 2)) rfl rfl dX4_receive_38 ?_
    refine lv_iload_n hx hb dX4_receive_41 rfl (lv_at hl 3 rfl) ?_
    refine lv_lload hx hb dX4_receive_42 (lv_at hl 1 rfl) ?_
    refine lv_lload hx hb dX4_receive_44 (lv_at hl 0 rfl) ?_
    refine hs_lle (x := (HM.ck (x) (i) + 1)) (y := (Int32.toInt64 (HM.rd (x) (i)) * 1048576)) (tgt := 55) hx hb dX4_receive_46 dX4_receive_47 (by decide) (fun c_3 => ?_) (fun c_3 => ?_)
    · refine lv_lload hx hb dX4_receive_55 (lv_at hl 0 rfl) ?_
      refine hm_sL G hP hD hS 2 (HM.ck (x)) 4 rfl (i) (nI_clamp (by omega)) (hs_inN (by omega) (by decide)) (hm_mem bd cy (HM.u_ck (x) (i) ((Int32.toInt64 (HM.rd (x) (i)) * 1048576)))) hm_s_ck dX4_receive_57 (fun H locs hP hD hS => ?_)
      exact ct_vret hx hb hr hlocks rfl (by rw [HM.tk, hs_tk, if_pos c_1, if_neg c_3]; exact hP) hS dX4_receive_58
    · refine lv_lload hx hb dX4_receive_50 (lv_at hl 1 rfl) ?_
      refine lv_goto (tgt := 57) hx hb dX4_receive_52 (by decide) ?_
      refine hm_sL G hP hD hS 2 (HM.ck (x)) 4 rfl (i) (nI_clamp (by omega)) (hs_inN (by omega) (by decide)) (hm_mem bd cy (HM.u_ck (x) (i) ((HM.ck (x) (i) + 1)))) hm_s_ck dX4_receive_57 (fun H locs hP hD hS => ?_)
      exact ct_vret hx hb hr hlocks rfl (by rw [HM.tk, hs_tk, if_pos c_1, if_pos c_3]; exact hP) hS dX4_receive_58
theorem in_X4_event_X4 : ∀ w ∈ u_ws RX4 TX4 21, w ∈ wsX4_event := by decide +kernel
set_option maxHeartbeats 4000000 in
set_option maxRecDepth 100000 in
/-- reference: r_event -/
theorem r_event (l : Launch) (D : va_G) (cy : Nat → ClassId) (bd : Nat → Nat) (ho : hm_ok bd) (x : HM) {i : Nat} (hi : i < 4) : Ct l yX4_event wsX4_event ({ frames := 1, cells := 0, slots := 0, locals := 27 }) D cy (hm_A bd) [.ref (bd 0), .int (nI i)] (hm_mem bd cy (x)) none (hm_mem bd cy (x.ev i)) := by
  refine ct_of (cc := cX4_event) (maxL := 2) (ret := none) rfl (by decide) (Nat.le_of_ble_eq_true rfl) ?_
  intro p e s m below meth c ls G hx hb hml hr hlocks hP hS hl
  have hD := hm_D ho cy (x)
  have hl : lv_has ls 2 [(0, .ref (bd 0)), (1, .int (nI i))] := hl
  refine lv_aload_n hx hb dX4_event_0 rfl (lv_at hl 0 rfl) ?_
  refine lv_iload_n hx hb dX4_event_1 rfl (lv_at hl 1 rfl) ?_
  refine lv_aload_n hx hb dX4_event_2 rfl (lv_at hl 0 rfl) ?_
  refine hm_gf G in_X4_event_X4 hP rfl 1 (by decide) (by decide +kernel) (.ref (bd 2)) rfl rfl dX4_event_3 ?_
  refine lv_iload_n hx hb dX4_event_6 rfl (lv_at hl 1 rfl) ?_
  refine hm_lL G hP 2 (HM.ck (x)) 4 rfl (i) (nI_clamp (by omega)) (hs_inN (by omega) (by decide)) (HM.ck (x) (i)) rfl dX4_event_7 ?_
  refine hs_callV (n := 2) (As := [.int (nI i), .long (HM.ck (x) (i))]) (rest := []) G hml (r_receive l D cy bd ho (x) (show i < 4 by first | omega | exact hi) (HM.ck (x) (i))) gX4_event_X4_receive rfl rfl rfl (by decide +kernel) ⟨Nat.le_of_ble_eq_true rfl, Nat.le_of_ble_eq_true rfl⟩ (q0 := 0) (ci := 4) (fs := hm_objL bd (x)) rfl rfl rfl rfl hl.1 (Nat.le_of_ble_eq_true rfl) ⟨Nat.zero_le _, Nat.zero_le _⟩ hP hS (fun _ h => h) rfl dX4_event_8 (fun H locs hP hS _ _ => ?_)
  have hD := hm_D ho cy (HM.tk (x) (i) (HM.ck (x) (i)))
  exact ct_vret hx hb hr hlocks rfl hP hS dX4_event_11
theorem in_X4_reading_X4 : ∀ w ∈ u_ws RX4 TX4 21, w ∈ wsX4_reading := by decide +kernel
set_option maxHeartbeats 4000000 in
set_option maxRecDepth 100000 in
/-- reference: r_reading -/
theorem r_reading (l : Launch) (D : va_G) (cy : Nat → ClassId) (bd : Nat → Nat) (ho : hm_ok bd) (x : HM) (z : Int32) : Ct l yX4_reading wsX4_reading ({ frames := 0, cells := 0, slots := 0, locals := 0 }) D cy (hm_A bd) [.ref (bd 0), .int (z)] (hm_mem bd cy (x)) (some (.int (x.readingA z))) (hm_mem bd cy (x)) := by
  rcases hs_rng z (b := 4) (by decide) with hz | ⟨i, hi, rfl⟩
  · refine ct_of (cc := cX4_reading) (maxL := 2) (ret := (some .int)) rfl (by decide) (Nat.le_of_ble_eq_true rfl) ?_
    intro p e s m below meth c ls G hx hb hml hr hlocks hP hS hl
    have hD := hm_D ho cy (x)
    have hl : lv_has ls 2 [(0, .ref (bd 0)), (1, .int (z))] := hl
    refine lv_iload_n hx hb dX4_reading_0 rfl (lv_at hl 1 rfl) ?_
    refine lv_if_lt (tgt := 9) hx hb dX4_reading_1 (by decide) (fun c_1 => ?_) (fun c_1 => ?_)
    · refine lv_iconst (v := (-1)) hx hb dX4_reading_9 (by decide) ?_
      exact ct_iret hx hb hr hlocks (by rw [HM.readingA, hs_n_out hz]) hP hS dX4_reading_10
    · refine lv_iload_n hx hb dX4_reading_4 rfl (lv_at hl 1 rfl) ?_
      refine lv_iconst (v := 3) hx hb dX4_reading_5 (by decide) ?_
      refine lv_icmp_le (tgt := 11) hx hb dX4_reading_6 (by decide) (fun c_2 => ?_) (fun c_2 => ?_)
      · exact absurd c_2 (Int32.not_le.mpr (hs_gt_of hz c_1 (by decide)))
      · refine lv_iconst (v := (-1)) hx hb dX4_reading_9 (by decide) ?_
        exact ct_iret hx hb hr hlocks (by rw [HM.readingA, hs_n_out hz]) hP hS dX4_reading_10
  · have eM := hs_n_in hi (show 4 < 2 ^ 31 by decide)
    refine ct_of (cc := cX4_reading) (maxL := 2) (ret := (some .int)) rfl (by decide) (Nat.le_of_ble_eq_true rfl) ?_
    intro p e s m below meth c ls G hx hb hml hr hlocks hP hS hl
    have hD := hm_D ho cy (x)
    have hl : lv_has ls 2 [(0, .ref (bd 0)), (1, .int (nI i))] := hl
    refine lv_iload_n hx hb dX4_reading_0 rfl (lv_at hl 1 rfl) ?_
    refine lv_if_lt (tgt := 9) hx hb dX4_reading_1 (by decide) (fun c_1 => ?_) (fun c_1 => ?_)
    · exact absurd c_1 (nI_pos (by omega))
    · refine lv_iload_n hx hb dX4_reading_4 rfl (lv_at hl 1 rfl) ?_
      refine lv_iconst (v := 3) hx hb dX4_reading_5 (by decide) ?_
      refine lv_icmp_le (tgt := 11) hx hb dX4_reading_6 (by decide) (fun c_2 => ?_) (fun c_2 => ?_)
      · refine lv_aload_n hx hb dX4_reading_11 rfl (lv_at hl 0 rfl) ?_
        refine hm_gf G in_X4_reading_X4 hP rfl 0 (by decide) (by decide +kernel) (.ref (bd 1)) rfl rfl dX4_reading_12 ?_
        refine lv_iload_n hx hb dX4_reading_15 rfl (lv_at hl 1 rfl) ?_
        refine hm_lI G hP 1 (HM.rd (x)) 4 rfl (i) (nI_clamp (by omega)) (hs_inN (by omega) (by decide)) (HM.rd (x) (i)) rfl dX4_reading_16 ?_
        exact ct_iret hx hb hr hlocks (by rw [HM.readingA, eM]) hP hS dX4_reading_17
      · exact absurd (Int32.not_lt.mp (hs_le_in hi (by decide))) c_2
theorem in_X4_clock_X4 : ∀ w ∈ u_ws RX4 TX4 21, w ∈ wsX4_clock := by decide +kernel
set_option maxHeartbeats 4000000 in
set_option maxRecDepth 100000 in
/-- reference: r_clock -/
theorem r_clock (l : Launch) (D : va_G) (cy : Nat → ClassId) (bd : Nat → Nat) (ho : hm_ok bd) (x : HM) (z : Int32) : Ct l yX4_clock wsX4_clock ({ frames := 0, cells := 0, slots := 0, locals := 0 }) D cy (hm_A bd) [.ref (bd 0), .int (z)] (hm_mem bd cy (x)) (some (.long (x.clockA z))) (hm_mem bd cy (x)) := by
  rcases hs_rng z (b := 4) (by decide) with hz | ⟨i, hi, rfl⟩
  · refine ct_of (cc := cX4_clock) (maxL := 2) (ret := (some .long)) rfl (by decide) (Nat.le_of_ble_eq_true rfl) ?_
    intro p e s m below meth c ls G hx hb hml hr hlocks hP hS hl
    have hD := hm_D ho cy (x)
    have hl : lv_has ls 2 [(0, .ref (bd 0)), (1, .int (z))] := hl
    refine lv_iload_n hx hb dX4_clock_0 rfl (lv_at hl 1 rfl) ?_
    refine lv_if_lt (tgt := 9) hx hb dX4_clock_1 (by decide) (fun c_1 => ?_) (fun c_1 => ?_)
    · refine lv_ldc2 (v := (-1)) hx hb G.2.2.2.1 (G.2.2.1 (.constantLong RX4 76 (-1)) (by decide +kernel)) dX4_clock_9 ?_
      exact ct_lret hx hb hr hlocks (by rw [HM.clockA, hs_n_out hz]) hP hS dX4_clock_12
    · refine lv_iload_n hx hb dX4_clock_4 rfl (lv_at hl 1 rfl) ?_
      refine lv_iconst (v := 3) hx hb dX4_clock_5 (by decide) ?_
      refine lv_icmp_le (tgt := 13) hx hb dX4_clock_6 (by decide) (fun c_2 => ?_) (fun c_2 => ?_)
      · exact absurd c_2 (Int32.not_le.mpr (hs_gt_of hz c_1 (by decide)))
      · refine lv_ldc2 (v := (-1)) hx hb G.2.2.2.1 (G.2.2.1 (.constantLong RX4 76 (-1)) (by decide +kernel)) dX4_clock_9 ?_
        exact ct_lret hx hb hr hlocks (by rw [HM.clockA, hs_n_out hz]) hP hS dX4_clock_12
  · have eM := hs_n_in hi (show 4 < 2 ^ 31 by decide)
    refine ct_of (cc := cX4_clock) (maxL := 2) (ret := (some .long)) rfl (by decide) (Nat.le_of_ble_eq_true rfl) ?_
    intro p e s m below meth c ls G hx hb hml hr hlocks hP hS hl
    have hD := hm_D ho cy (x)
    have hl : lv_has ls 2 [(0, .ref (bd 0)), (1, .int (nI i))] := hl
    refine lv_iload_n hx hb dX4_clock_0 rfl (lv_at hl 1 rfl) ?_
    refine lv_if_lt (tgt := 9) hx hb dX4_clock_1 (by decide) (fun c_1 => ?_) (fun c_1 => ?_)
    · exact absurd c_1 (nI_pos (by omega))
    · refine lv_iload_n hx hb dX4_clock_4 rfl (lv_at hl 1 rfl) ?_
      refine lv_iconst (v := 3) hx hb dX4_clock_5 (by decide) ?_
      refine lv_icmp_le (tgt := 13) hx hb dX4_clock_6 (by decide) (fun c_2 => ?_) (fun c_2 => ?_)
      · refine lv_aload_n hx hb dX4_clock_13 rfl (lv_at hl 0 rfl) ?_
        refine hm_gf G in_X4_clock_X4 hP rfl 1 (by decide) (by decide +kernel) (.ref (bd 2)) rfl rfl dX4_clock_14 ?_
        refine lv_iload_n hx hb dX4_clock_17 rfl (lv_at hl 1 rfl) ?_
        refine hm_lL G hP 2 (HM.ck (x)) 4 rfl (i) (nI_clamp (by omega)) (hs_inN (by omega) (by decide)) (HM.ck (x) (i)) rfl dX4_clock_18 ?_
        exact ct_lret hx hb hr hlocks (by rw [HM.clockA, eM]) hP hS dX4_clock_19
      · exact absurd (Int32.not_lt.mp (hs_le_in hi (by decide))) c_2
theorem in_X4_state_X4 : ∀ w ∈ u_ws RX4 TX4 21, w ∈ wsX4_state := by decide +kernel
set_option maxHeartbeats 4000000 in
set_option maxRecDepth 100000 in
/-- reference: r_state -/
theorem r_state (l : Launch) (D : va_G) (cy : Nat → ClassId) (bd : Nat → Nat) (ho : hm_ok bd) (x : HM) (z : Int32) : Ct l yX4_state wsX4_state ({ frames := 0, cells := 0, slots := 0, locals := 0 }) D cy (hm_A bd) [.ref (bd 0), .int (z)] (hm_mem bd cy (x)) (some (.int (x.stateA z))) (hm_mem bd cy (x)) := by
  rcases hs_rng z (b := 8) (by decide) with hz | ⟨t, ht, rfl⟩
  · refine ct_of (cc := cX4_state) (maxL := 2) (ret := (some .int)) rfl (by decide) (Nat.le_of_ble_eq_true rfl) ?_
    intro p e s m below meth c ls G hx hb hml hr hlocks hP hS hl
    have hD := hm_D ho cy (x)
    have hl : lv_has ls 2 [(0, .ref (bd 0)), (1, .int (z))] := hl
    refine lv_iload_n hx hb dX4_state_0 rfl (lv_at hl 1 rfl) ?_
    refine lv_if_lt (tgt := 10) hx hb dX4_state_1 (by decide) (fun c_1 => ?_) (fun c_1 => ?_)
    · refine lv_iconst (v := (-1)) hx hb dX4_state_10 (by decide) ?_
      exact ct_iret hx hb hr hlocks (by rw [HM.stateA, hs_n_out hz]) hP hS dX4_state_11
    · refine lv_iload_n hx hb dX4_state_4 rfl (lv_at hl 1 rfl) ?_
      refine lv_bipush (v := 7) hx hb dX4_state_5 (by decide) ?_
      refine lv_icmp_le (tgt := 12) hx hb dX4_state_7 (by decide) (fun c_2 => ?_) (fun c_2 => ?_)
      · exact absurd c_2 (Int32.not_le.mpr (hs_gt_of hz c_1 (by decide)))
      · refine lv_iconst (v := (-1)) hx hb dX4_state_10 (by decide) ?_
        exact ct_iret hx hb hr hlocks (by rw [HM.stateA, hs_n_out hz]) hP hS dX4_state_11
  · have eM := hs_n_in ht (show 8 < 2 ^ 31 by decide)
    refine ct_of (cc := cX4_state) (maxL := 2) (ret := (some .int)) rfl (by decide) (Nat.le_of_ble_eq_true rfl) ?_
    intro p e s m below meth c ls G hx hb hml hr hlocks hP hS hl
    have hD := hm_D ho cy (x)
    have hl : lv_has ls 2 [(0, .ref (bd 0)), (1, .int (nI t))] := hl
    refine lv_iload_n hx hb dX4_state_0 rfl (lv_at hl 1 rfl) ?_
    refine lv_if_lt (tgt := 10) hx hb dX4_state_1 (by decide) (fun c_1 => ?_) (fun c_1 => ?_)
    · exact absurd c_1 (nI_pos (by omega))
    · refine lv_iload_n hx hb dX4_state_4 rfl (lv_at hl 1 rfl) ?_
      refine lv_bipush (v := 7) hx hb dX4_state_5 (by decide) ?_
      refine lv_icmp_le (tgt := 12) hx hb dX4_state_7 (by decide) (fun c_2 => ?_) (fun c_2 => ?_)
      · refine lv_aload_n hx hb dX4_state_12 rfl (lv_at hl 0 rfl) ?_
        refine hm_gf G in_X4_state_X4 hP rfl 2 (by decide) (by decide +kernel) (.ref (bd 3)) rfl rfl dX4_state_13 ?_
        refine lv_iload_n hx hb dX4_state_16 rfl (lv_at hl 1 rfl) ?_
        refine hm_lI G hP 3 (HM.ph (x)) 8 rfl (t) (nI_clamp (by omega)) (hs_inN (by omega) (by decide)) (HM.ph (x) (t)) rfl dX4_state_17 ?_
        exact ct_iret hx hb hr hlocks (by rw [HM.stateA, eM]) hP hS dX4_state_18
      · exact absurd (Int32.not_lt.mp (hs_le_in ht (by decide))) c_2
theorem in_X4_stamp_X4 : ∀ w ∈ u_ws RX4 TX4 21, w ∈ wsX4_stamp := by decide +kernel
set_option maxHeartbeats 4000000 in
set_option maxRecDepth 100000 in
/-- reference: r_stamp -/
theorem r_stamp (l : Launch) (D : va_G) (cy : Nat → ClassId) (bd : Nat → Nat) (ho : hm_ok bd) (x : HM) (z : Int32) : Ct l yX4_stamp wsX4_stamp ({ frames := 0, cells := 0, slots := 0, locals := 0 }) D cy (hm_A bd) [.ref (bd 0), .int (z)] (hm_mem bd cy (x)) (some (.long (x.stampA z))) (hm_mem bd cy (x)) := by
  rcases hs_rng z (b := 8) (by decide) with hz | ⟨t, ht, rfl⟩
  · refine ct_of (cc := cX4_stamp) (maxL := 2) (ret := (some .long)) rfl (by decide) (Nat.le_of_ble_eq_true rfl) ?_
    intro p e s m below meth c ls G hx hb hml hr hlocks hP hS hl
    have hD := hm_D ho cy (x)
    have hl : lv_has ls 2 [(0, .ref (bd 0)), (1, .int (z))] := hl
    refine lv_iload_n hx hb dX4_stamp_0 rfl (lv_at hl 1 rfl) ?_
    refine lv_if_lt (tgt := 29) hx hb dX4_stamp_1 (by decide) (fun c_1 => ?_) (fun c_1 => ?_)
    · refine lv_ldc2 (v := (-1)) hx hb G.2.2.2.1 (G.2.2.1 (.constantLong RX4 76 (-1)) (by decide +kernel)) dX4_stamp_29 ?_
      exact ct_lret hx hb hr hlocks (by rw [HM.stampA, hs_n_out hz]) hP hS dX4_stamp_32
    · refine lv_iload_n hx hb dX4_stamp_4 rfl (lv_at hl 1 rfl) ?_
      refine lv_bipush (v := 7) hx hb dX4_stamp_5 (by decide) ?_
      refine lv_icmp_gt (tgt := 29) hx hb dX4_stamp_7 (by decide) (fun c_2 => ?_) (fun c_2 => ?_)
      · refine lv_ldc2 (v := (-1)) hx hb G.2.2.2.1 (G.2.2.1 (.constantLong RX4 76 (-1)) (by decide +kernel)) dX4_stamp_29 ?_
        exact ct_lret hx hb hr hlocks (by rw [HM.stampA, hs_n_out hz]) hP hS dX4_stamp_32
      · exact absurd (hs_gt_of hz c_1 (by decide)) c_2
  · have eM := hs_n_in ht (show 8 < 2 ^ 31 by decide)
    refine ct_of (cc := cX4_stamp) (maxL := 2) (ret := (some .long)) rfl (by decide) (Nat.le_of_ble_eq_true rfl) ?_
    intro p e s m below meth c ls G hx hb hml hr hlocks hP hS hl
    have hD := hm_D ho cy (x)
    have hl : lv_has ls 2 [(0, .ref (bd 0)), (1, .int (nI t))] := hl
    refine lv_iload_n hx hb dX4_stamp_0 rfl (lv_at hl 1 rfl) ?_
    refine lv_if_lt (tgt := 29) hx hb dX4_stamp_1 (by decide) (fun c_1 => ?_) (fun c_1 => ?_)
    · exact absurd c_1 (nI_pos (by omega))
    · refine lv_iload_n hx hb dX4_stamp_4 rfl (lv_at hl 1 rfl) ?_
      refine lv_bipush (v := 7) hx hb dX4_stamp_5 (by decide) ?_
      refine lv_icmp_gt (tgt := 29) hx hb dX4_stamp_7 (by decide) (fun c_2 => ?_) (fun c_2 => ?_)
      · exact absurd c_2 (hs_le_in ht (by decide))
      · refine lv_aload_n hx hb dX4_stamp_10 rfl (lv_at hl 0 rfl) ?_
        refine hm_gf G in_X4_stamp_X4 hP rfl 2 (by decide) (by decide +kernel) (.ref (bd 3)) rfl rfl dX4_stamp_11 ?_
        refine lv_iload_n hx hb dX4_stamp_14 rfl (lv_at hl 1 rfl) ?_
        refine hm_lI G hP 3 (HM.ph (x)) 8 rfl (t) (nI_clamp (by omega)) (hs_inN (by omega) (by decide)) (HM.ph (x) (t)) rfl dX4_stamp_15 ?_
        refine lv_if_eq (tgt := 29) hx hb dX4_stamp_16 (by decide) (fun c_3 => ?_) (fun c_3 => ?_)
        · refine lv_ldc2 (v := (-1)) hx hb G.2.2.2.1 (G.2.2.1 (.constantLong RX4 76 (-1)) (by decide +kernel)) dX4_stamp_29 ?_
          have eA : x.stampA (nI t) = if x.ph t = 0 then -1 else if x.ph t = 3 then -1 else x.rs t := by rw [HM.stampA, eM]
          exact ct_lret hx hb hr hlocks (by rw [eA, if_pos c_3]) hP hS dX4_stamp_32
        · refine lv_aload_n hx hb dX4_stamp_19 rfl (lv_at hl 0 rfl) ?_
          refine hm_gf G in_X4_stamp_X4 hP rfl 2 (by decide) (by decide +kernel) (.ref (bd 3)) rfl rfl dX4_stamp_20 ?_
          refine lv_iload_n hx hb dX4_stamp_23 rfl (lv_at hl 1 rfl) ?_
          refine hm_lI G hP 3 (HM.ph (x)) 8 rfl (t) (nI_clamp (by omega)) (hs_inN (by omega) (by decide)) (HM.ph (x) (t)) rfl dX4_stamp_24 ?_
          refine lv_iconst (v := 3) hx hb dX4_stamp_25 (by decide) ?_
          refine lv_icmp_ne (tgt := 33) hx hb dX4_stamp_26 (by decide) (fun c_4 => ?_) (fun c_4 => ?_)
          · refine lv_aload_n hx hb dX4_stamp_33 rfl (lv_at hl 0 rfl) ?_
            refine hm_gf G in_X4_stamp_X4 hP rfl 6 (by decide) (by decide +kernel) (.ref (bd 7)) rfl rfl dX4_stamp_34 ?_
            refine lv_iload_n hx hb dX4_stamp_37 rfl (lv_at hl 1 rfl) ?_
            refine hm_lL G hP 7 (HM.rs (x)) 8 rfl (t) (nI_clamp (by omega)) (hs_inN (by omega) (by decide)) (HM.rs (x) (t)) rfl dX4_stamp_38 ?_
            have eA : x.stampA (nI t) = if x.ph t = 0 then -1 else if x.ph t = 3 then -1 else x.rs t := by rw [HM.stampA, eM]
            exact ct_lret hx hb hr hlocks (by rw [eA, if_neg c_3, if_neg c_4]) hP hS dX4_stamp_39
          · refine lv_ldc2 (v := (-1)) hx hb G.2.2.2.1 (G.2.2.1 (.constantLong RX4 76 (-1)) (by decide +kernel)) dX4_stamp_29 ?_
            have eA : x.stampA (nI t) = if x.ph t = 0 then -1 else if x.ph t = 3 then -1 else x.rs t := by rw [HM.stampA, eM]
            exact ct_lret hx hb hr hlocks (by rw [eA, if_neg c_3, if_pos c_4]) hP hS dX4_stamp_32
theorem in_X4_committed_X4 : ∀ w ∈ u_ws RX4 TX4 21, w ∈ wsX4_committed := by decide +kernel
set_option maxHeartbeats 4000000 in
set_option maxRecDepth 100000 in
/-- reference: r_committed -/
theorem r_committed (l : Launch) (D : va_G) (cy : Nat → ClassId) (bd : Nat → Nat) (ho : hm_ok bd) (x : HM) (hcm : x.cm.length ≤ 512) (z : Int32) : Ct l yX4_committed wsX4_committed ({ frames := 0, cells := 0, slots := 0, locals := 0 }) D cy (hm_A bd) [.ref (bd 0), .int (z)] (hm_mem bd cy (x)) (some (.long (x.committedA z))) (hm_mem bd cy (x)) := by
  refine ct_of (cc := cX4_committed) (maxL := 2) (ret := (some .long)) rfl (by decide) (Nat.le_of_ble_eq_true rfl) ?_
  intro p e s m below meth c ls G hx hb hml hr hlocks hP hS hl
  have hD := hm_D ho cy (x)
  have hl : lv_has ls 2 [(0, .ref (bd 0)), (1, .int (z))] := hl
  refine lv_iload_n hx hb dX4_committed_0 rfl (lv_at hl 1 rfl) ?_
  refine lv_if_lt (tgt := 12) hx hb dX4_committed_1 (by decide) (fun c_1 => ?_) (fun c_1 => ?_)
  · refine lv_ldc2 (v := (-1)) hx hb G.2.2.2.1 (G.2.2.1 (.constantLong RX4 76 (-1)) (by decide +kernel)) dX4_committed_12 ?_
    exact ct_lret hx hb hr hlocks (by rw [HM.committedA, if_pos c_1]) hP hS dX4_committed_15
  · refine lv_iload_n hx hb dX4_committed_4 rfl (lv_at hl 1 rfl) ?_
    refine lv_aload_n hx hb dX4_committed_5 rfl (lv_at hl 0 rfl) ?_
    refine hm_gf G in_X4_committed_X4 hP rfl 12 (by decide) (by decide +kernel) (.int (nI (HM.cm (x)).length)) rfl rfl dX4_committed_6 ?_
    refine lv_icmp_lt (tgt := 16) hx hb dX4_committed_9 (by decide) (fun c_2 => ?_) (fun c_2 => ?_)
    · obtain ⟨j, hj, rfl⟩ : ∃ j, j < x.cm.length ∧ z = nI j := by
        rcases hs_rng z (b := x.cm.length) (by omega) with (q | q) | q
        · exact absurd q c_1
        · exact absurd q (Int32.not_le.mpr c_2)
        · exact q
      refine lv_aload_n hx hb dX4_committed_16 rfl (lv_at hl 0 rfl) ?_
      refine hm_gf G in_X4_committed_X4 hP rfl 13 (by decide) (by decide +kernel) (.ref (bd 12)) rfl rfl dX4_committed_17 ?_
      refine lv_iload_n hx hb dX4_committed_20 rfl (lv_at hl 1 rfl) ?_
      refine hm_lL G hP 12 (hm_cm (x)) 512 rfl (j) (nI_clamp (by omega)) (hs_inN (by omega) (by decide)) (hm_cm (x) (j)) rfl dX4_committed_21 ?_
      exact ct_lret hx hb hr hlocks (by rw [HM.committedA, if_neg c_1, if_neg (Int32.not_le.mpr c_2), nI_clamp (by omega)]; rfl) hP hS dX4_committed_22
    · refine lv_ldc2 (v := (-1)) hx hb G.2.2.2.1 (G.2.2.1 (.constantLong RX4 76 (-1)) (by decide +kernel)) dX4_committed_12 ?_
      exact ct_lret hx hb hr hlocks (by rw [HM.committedA, if_neg c_1, if_pos (Int32.not_lt.mp c_2)]) hP hS dX4_committed_15

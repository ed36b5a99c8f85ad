theorem in_X3_reading_X3 : ∀ w ∈ u_ws RX3 TX3 6, w ∈ wsX3_reading := by decide +kernel
theorem in_X3_reading_X1 : ∀ w ∈ u_ws RX1 TX1 2, w ∈ wsX3_reading := by decide +kernel
set_option maxHeartbeats 4000000 in
set_option maxRecDepth 100000 in
/-- c_reading -/
theorem c_reading (l : Launch) (D : va_G) (cy : Nat → ClassId) (ad : Nat → Nat) (ho : hc_ok ad) (x : HM) (z : Int32) : Ct l yX3_reading wsX3_reading ({ frames := 1, cells := 0, slots := 0, locals := 21 }) D cy (hc_A ad) [.ref (ad 0), .int (z)] (hc_mem ad cy (x)) (some (.int (x.readingA z))) (hc_mem ad cy (x)) := by
  rcases hs_rng z (b := 4) (by decide) with hz | ⟨i, hi, rfl⟩
  · refine ct_of (cc := cX3_reading) (maxL := 3) (ret := (some .int)) rfl (by decide) (Nat.le_of_ble_eq_true rfl) ?_
    intro p e s m below meth c ls G hx hb hml hr hlocks hP hS hl
    have hl : lv_has ls 3 [(0, .ref (ad 0)), (1, .int (z))] := hl
    refine lv_aload_n hx hb dX3_reading_0 rfl (lv_at hl 0 rfl) ?_
    refine lv_iload_n hx hb dX3_reading_1 rfl (lv_at hl 1 rfl) ?_
    refine hs_callV (n := 1) (As := [.int (z)]) (rest := []) G hml (c_nodeAt_no l D cy ad ho (x) (z) hz) gX3_reading_X3_nodeAt rfl rfl rfl (by decide +kernel) ⟨Nat.le_of_ble_eq_true rfl, Nat.le_of_ble_eq_true rfl⟩ (ci := 3) rfl rfl (hc_at_top (j := 0) (by decide)) rfl hl.1 (Nat.le_of_ble_eq_true rfl) ⟨Nat.zero_le _, Nat.zero_le _⟩ hP hS (fun _ h => h) rfl dX3_reading_2 (fun H locs hP hS _ _ => ?_)
    refine lv_astore_nN (lv' := [(2, .null), (0, .ref (ad 0)), (1, .int (z))]) hx hb dX3_reading_5 rfl hl (by decide) rfl (fun ls hl => ?_)
    refine lv_aload_nN hx hb dX3_reading_6 rfl (lv_at hl 0 rfl) ?_
    refine lv_ifnonnullN hx hb dX3_reading_7 ?_
    refine lv_iconst (v := (-1)) hx hb dX3_reading_10 (by decide) ?_
    refine lv_goto (tgt := 18) hx hb dX3_reading_11 (by decide) ?_
    exact ct_iret hx hb hr hlocks (by rw [HM.readingA, hs_n_out hz]) hP hS dX3_reading_18
  · have eM := hs_n_in hi (show 4 < 2 ^ 31 by decide)
    refine ct_of (cc := cX3_reading) (maxL := 3) (ret := (some .int)) rfl (by decide) (Nat.le_of_ble_eq_true rfl) ?_
    intro p e s m below meth c ls G hx hb hml hr hlocks hP hS hl
    have hl : lv_has ls 3 [(0, .ref (ad 0)), (1, .int (nI i))] := hl
    refine lv_aload_n hx hb dX3_reading_0 rfl (lv_at hl 0 rfl) ?_
    refine lv_iload_n hx hb dX3_reading_1 rfl (lv_at hl 1 rfl) ?_
    refine hs_callV (n := 1) (As := [.int (nI i)]) (rest := []) G hml (c_nodeAt l D cy ad ho (x) hi) gX3_reading_X3_nodeAt rfl rfl rfl (by decide +kernel) ⟨Nat.le_of_ble_eq_true rfl, Nat.le_of_ble_eq_true rfl⟩ (ci := 3) rfl rfl (hc_at_top (j := 0) (by decide)) rfl hl.1 (Nat.le_of_ble_eq_true rfl) ⟨Nat.zero_le _, Nat.zero_le _⟩ hP hS (fun _ h => h) rfl dX3_reading_2 (fun H locs hP hS _ _ => ?_)
    refine lv_astore_n (lv' := [(2, .ref (ad (5 + i))), (0, .ref (ad 0)), (1, .int (nI i))]) hx hb dX3_reading_5 rfl hl (by decide) rfl (fun ls hl => ?_)
    refine lv_aload_n hx hb dX3_reading_6 rfl (lv_at hl 0 rfl) ?_
    refine lv_ifnonnull (tgt := 14) hx hb dX3_reading_7 (by decide) ?_
    refine lv_aload_n hx hb dX3_reading_14 rfl (lv_at hl 0 rfl) ?_
    refine hc_g_noden G (in_X3_reading_X1) hP (hi) 0 (by decide) (by decide +kernel) (.int (HM.rd (x) (i))) rfl rfl dX3_reading_15 ?_
    exact ct_iret hx hb hr hlocks (by rw [HM.readingA, eM]) hP hS dX3_reading_18
theorem in_X3_clock_X3 : ∀ w ∈ u_ws RX3 TX3 6, w ∈ wsX3_clock := by decide +kernel
theorem in_X3_clock_X1 : ∀ w ∈ u_ws RX1 TX1 2, w ∈ wsX3_clock := by decide +kernel
set_option maxHeartbeats 4000000 in
set_option maxRecDepth 100000 in
/-- c_clock -/
theorem c_clock (l : Launch) (D : va_G) (cy : Nat → ClassId) (ad : Nat → Nat) (ho : hc_ok ad) (x : HM) (z : Int32) : Ct l yX3_clock wsX3_clock ({ frames := 1, cells := 0, slots := 0, locals := 21 }) D cy (hc_A ad) [.ref (ad 0), .int (z)] (hc_mem ad cy (x)) (some (.long (x.clockA z))) (hc_mem ad cy (x)) := by
  rcases hs_rng z (b := 4) (by decide) with hz | ⟨i, hi, rfl⟩
  · refine ct_of (cc := cX3_clock) (maxL := 3) (ret := (some .long)) rfl (by decide) (Nat.le_of_ble_eq_true rfl) ?_
    intro p e s m below meth c ls G hx hb hml hr hlocks hP hS hl
    have hl : lv_has ls 3 [(0, .ref (ad 0)), (1, .int (z))] := hl
    refine lv_aload_n hx hb dX3_clock_0 rfl (lv_at hl 0 rfl) ?_
    refine lv_iload_n hx hb dX3_clock_1 rfl (lv_at hl 1 rfl) ?_
    refine hs_callV (n := 1) (As := [.int (z)]) (rest := []) G hml (c_nodeAt_no l D cy ad ho (x) (z) hz) gX3_clock_X3_nodeAt rfl rfl rfl (by decide +kernel) ⟨Nat.le_of_ble_eq_true rfl, Nat.le_of_ble_eq_true rfl⟩ (ci := 3) rfl rfl (hc_at_top (j := 0) (by decide)) rfl hl.1 (Nat.le_of_ble_eq_true rfl) ⟨Nat.zero_le _, Nat.zero_le _⟩ hP hS (fun _ h => h) rfl dX3_clock_2 (fun H locs hP hS _ _ => ?_)
    refine lv_astore_nN (lv' := [(2, .null), (0, .ref (ad 0)), (1, .int (z))]) hx hb dX3_clock_5 rfl hl (by decide) rfl (fun ls hl => ?_)
    refine lv_aload_nN hx hb dX3_clock_6 rfl (lv_at hl 0 rfl) ?_
    refine lv_ifnonnullN hx hb dX3_clock_7 ?_
    refine lv_ldc2 (v := (-1)) hx hb G.2.2.2.1 (G.2.2.1 (.constantLong RX3 53 (-1)) (by decide +kernel)) dX3_clock_10 ?_
    refine lv_goto (tgt := 20) hx hb dX3_clock_13 (by decide) ?_
    exact ct_lret hx hb hr hlocks (by rw [HM.clockA, hs_n_out hz]) hP hS dX3_clock_20
  · have eM := hs_n_in hi (show 4 < 2 ^ 31 by decide)
    refine ct_of (cc := cX3_clock) (maxL := 3) (ret := (some .long)) rfl (by decide) (Nat.le_of_ble_eq_true rfl) ?_
    intro p e s m below meth c ls G hx hb hml hr hlocks hP hS hl
    have hl : lv_has ls 3 [(0, .ref (ad 0)), (1, .int (nI i))] := hl
    refine lv_aload_n hx hb dX3_clock_0 rfl (lv_at hl 0 rfl) ?_
    refine lv_iload_n hx hb dX3_clock_1 rfl (lv_at hl 1 rfl) ?_
    refine hs_callV (n := 1) (As := [.int (nI i)]) (rest := []) G hml (c_nodeAt l D cy ad ho (x) hi) gX3_clock_X3_nodeAt rfl rfl rfl (by decide +kernel) ⟨Nat.le_of_ble_eq_true rfl, Nat.le_of_ble_eq_true rfl⟩ (ci := 3) rfl rfl (hc_at_top (j := 0) (by decide)) rfl hl.1 (Nat.le_of_ble_eq_true rfl) ⟨Nat.zero_le _, Nat.zero_le _⟩ hP hS (fun _ h => h) rfl dX3_clock_2 (fun H locs hP hS _ _ => ?_)
    refine lv_astore_n (lv' := [(2, .ref (ad (5 + i))), (0, .ref (ad 0)), (1, .int (nI i))]) hx hb dX3_clock_5 rfl hl (by decide) rfl (fun ls hl => ?_)
    refine lv_aload_n hx hb dX3_clock_6 rfl (lv_at hl 0 rfl) ?_
    refine lv_ifnonnull (tgt := 16) hx hb dX3_clock_7 (by decide) ?_
    refine lv_aload_n hx hb dX3_clock_16 rfl (lv_at hl 0 rfl) ?_
    refine hc_g_noden G (in_X3_clock_X1) hP (hi) 1 (by decide) (by decide +kernel) (.long (HM.ck (x) (i))) rfl rfl dX3_clock_17 ?_
    exact ct_lret hx hb hr hlocks (by rw [HM.clockA, eM]) hP hS dX3_clock_20
theorem in_X3_state_X3 : ∀ w ∈ u_ws RX3 TX3 6, w ∈ wsX3_state := by decide +kernel
theorem in_X3_state_X2 : ∀ w ∈ u_ws RX2 TX2 9, w ∈ wsX3_state := by decide +kernel
set_option maxHeartbeats 4000000 in
set_option maxRecDepth 100000 in
/-- c_state -/
theorem c_state (l : Launch) (D : va_G) (cy : Nat → ClassId) (ad : Nat → Nat) (ho : hc_ok ad) (x : HM) (z : Int32) : Ct l yX3_state wsX3_state ({ frames := 1, cells := 0, slots := 0, locals := 21 }) D cy (hc_A ad) [.ref (ad 0), .int (z)] (hc_mem ad cy (x)) (some (.int (x.stateA z))) (hc_mem ad cy (x)) := by
  rcases hs_rng z (b := 8) (by decide) with hz | ⟨t, ht, rfl⟩
  · refine ct_of (cc := cX3_state) (maxL := 3) (ret := (some .int)) rfl (by decide) (Nat.le_of_ble_eq_true rfl) ?_
    intro p e s m below meth c ls G hx hb hml hr hlocks hP hS hl
    have hl : lv_has ls 3 [(0, .ref (ad 0)), (1, .int (z))] := hl
    refine lv_aload_n hx hb dX3_state_0 rfl (lv_at hl 0 rfl) ?_
    refine lv_iload_n hx hb dX3_state_1 rfl (lv_at hl 1 rfl) ?_
    refine hs_callV (n := 1) (As := [.int (z)]) (rest := []) G hml (c_transactionAt_no l D cy ad ho (x) (z) hz) gX3_state_X3_transactionAt rfl rfl rfl (by decide +kernel) ⟨Nat.le_of_ble_eq_true rfl, Nat.le_of_ble_eq_true rfl⟩ (ci := 3) rfl rfl (hc_at_top (j := 0) (by decide)) rfl hl.1 (Nat.le_of_ble_eq_true rfl) ⟨Nat.zero_le _, Nat.zero_le _⟩ hP hS (fun _ h => h) rfl dX3_state_2 (fun H locs hP hS _ _ => ?_)
    refine lv_astore_nN (lv' := [(2, .null), (0, .ref (ad 0)), (1, .int (z))]) hx hb dX3_state_5 rfl hl (by decide) rfl (fun ls hl => ?_)
    refine lv_aload_nN hx hb dX3_state_6 rfl (lv_at hl 0 rfl) ?_
    refine lv_ifnonnullN hx hb dX3_state_7 ?_
    refine lv_iconst (v := (-1)) hx hb dX3_state_10 (by decide) ?_
    refine lv_goto (tgt := 18) hx hb dX3_state_11 (by decide) ?_
    exact ct_iret hx hb hr hlocks (by rw [HM.stateA, hs_n_out hz]) hP hS dX3_state_18
  · have eM := hs_n_in ht (show 8 < 2 ^ 31 by decide)
    refine ct_of (cc := cX3_state) (maxL := 3) (ret := (some .int)) rfl (by decide) (Nat.le_of_ble_eq_true rfl) ?_
    intro p e s m below meth c ls G hx hb hml hr hlocks hP hS hl
    have hl : lv_has ls 3 [(0, .ref (ad 0)), (1, .int (nI t))] := hl
    refine lv_aload_n hx hb dX3_state_0 rfl (lv_at hl 0 rfl) ?_
    refine lv_iload_n hx hb dX3_state_1 rfl (lv_at hl 1 rfl) ?_
    refine hs_callV (n := 1) (As := [.int (nI t)]) (rest := []) G hml (c_transactionAt l D cy ad ho (x) ht) gX3_state_X3_transactionAt rfl rfl rfl (by decide +kernel) ⟨Nat.le_of_ble_eq_true rfl, Nat.le_of_ble_eq_true rfl⟩ (ci := 3) rfl rfl (hc_at_top (j := 0) (by decide)) rfl hl.1 (Nat.le_of_ble_eq_true rfl) ⟨Nat.zero_le _, Nat.zero_le _⟩ hP hS (fun _ h => h) rfl dX3_state_2 (fun H locs hP hS _ _ => ?_)
    refine lv_astore_n (lv' := [(2, .ref (ad (57 + t))), (0, .ref (ad 0)), (1, .int (nI t))]) hx hb dX3_state_5 rfl hl (by decide) rfl (fun ls hl => ?_)
    refine lv_aload_n hx hb dX3_state_6 rfl (lv_at hl 0 rfl) ?_
    refine lv_ifnonnull (tgt := 14) hx hb dX3_state_7 (by decide) ?_
    refine lv_aload_n hx hb dX3_state_14 rfl (lv_at hl 0 rfl) ?_
    refine hc_g_txn G (in_X3_state_X2) hP (ht) 0 (by decide) (by decide +kernel) (.int (HM.ph (x) (t))) rfl rfl dX3_state_15 ?_
    exact ct_iret hx hb hr hlocks (by rw [HM.stateA, eM]) hP hS dX3_state_18
theorem in_X3_versions_X3 : ∀ w ∈ u_ws RX3 TX3 6, w ∈ wsX3_versions := by decide +kernel
theorem in_X3_versions_X0 : ∀ w ∈ u_ws RX0 TX0 8, w ∈ wsX3_versions := by decide +kernel
set_option maxHeartbeats 4000000 in
set_option maxRecDepth 100000 in
/-- c_versions -/
theorem c_versions (l : Launch) (D : va_G) (cy : Nat → ClassId) (ad : Nat → Nat) (ho : hc_ok ad) (x : HM) (z : Int32) : Ct l yX3_versions wsX3_versions ({ frames := 1, cells := 0, slots := 0, locals := 21 }) D cy (hc_A ad) [.ref (ad 0), .int (z)] (hc_mem ad cy (x)) (some (.int (x.versionsA z))) (hc_mem ad cy (x)) := by
  rcases hs_rng z (b := 16) (by decide) with hz | ⟨k, hk, rfl⟩
  · refine ct_of (cc := cX3_versions) (maxL := 3) (ret := (some .int)) rfl (by decide) (Nat.le_of_ble_eq_true rfl) ?_
    intro p e s m below meth c ls G hx hb hml hr hlocks hP hS hl
    have hl : lv_has ls 3 [(0, .ref (ad 0)), (1, .int (z))] := hl
    refine lv_aload_n hx hb dX3_versions_0 rfl (lv_at hl 0 rfl) ?_
    refine lv_iload_n hx hb dX3_versions_1 rfl (lv_at hl 1 rfl) ?_
    refine hs_callV (n := 1) (As := [.int (z)]) (rest := []) G hml (c_keyAt_no l D cy ad ho (x) (z) hz) gX3_versions_X3_keyAt rfl rfl rfl (by decide +kernel) ⟨Nat.le_of_ble_eq_true rfl, Nat.le_of_ble_eq_true rfl⟩ (ci := 3) rfl rfl (hc_at_top (j := 0) (by decide)) rfl hl.1 (Nat.le_of_ble_eq_true rfl) ⟨Nat.zero_le _, Nat.zero_le _⟩ hP hS (fun _ h => h) rfl dX3_versions_2 (fun H locs hP hS _ _ => ?_)
    refine lv_astore_nN (lv' := [(2, .null), (0, .ref (ad 0)), (1, .int (z))]) hx hb dX3_versions_5 rfl hl (by decide) rfl (fun ls hl => ?_)
    refine lv_aload_nN hx hb dX3_versions_6 rfl (lv_at hl 0 rfl) ?_
    refine lv_ifnonnullN hx hb dX3_versions_7 ?_
    refine lv_iconst (v := (-1)) hx hb dX3_versions_10 (by decide) ?_
    refine lv_goto (tgt := 18) hx hb dX3_versions_11 (by decide) ?_
    exact ct_iret hx hb hr hlocks (by rw [HM.versionsA, hs_n_out hz]) hP hS dX3_versions_18
  · have eM := hs_n_in hk (show 16 < 2 ^ 31 by decide)
    refine ct_of (cc := cX3_versions) (maxL := 3) (ret := (some .int)) rfl (by decide) (Nat.le_of_ble_eq_true rfl) ?_
    intro p e s m below meth c ls G hx hb hml hr hlocks hP hS hl
    have hl : lv_has ls 3 [(0, .ref (ad 0)), (1, .int (nI k))] := hl
    refine lv_aload_n hx hb dX3_versions_0 rfl (lv_at hl 0 rfl) ?_
    refine lv_iload_n hx hb dX3_versions_1 rfl (lv_at hl 1 rfl) ?_
    refine hs_callV (n := 1) (As := [.int (nI k)]) (rest := []) G hml (c_keyAt l D cy ad ho (x) hk) gX3_versions_X3_keyAt rfl rfl rfl (by decide +kernel) ⟨Nat.le_of_ble_eq_true rfl, Nat.le_of_ble_eq_true rfl⟩ (ci := 3) rfl rfl (hc_at_top (j := 0) (by decide)) rfl hl.1 (Nat.le_of_ble_eq_true rfl) ⟨Nat.zero_le _, Nat.zero_le _⟩ hP hS (fun _ h => h) rfl dX3_versions_2 (fun H locs hP hS _ _ => ?_)
    refine lv_astore_n (lv' := [(2, .ref (ad (9 + k))), (0, .ref (ad 0)), (1, .int (nI k))]) hx hb dX3_versions_5 rfl hl (by decide) rfl (fun ls hl => ?_)
    refine lv_aload_n hx hb dX3_versions_6 rfl (lv_at hl 0 rfl) ?_
    refine lv_ifnonnull (tgt := 14) hx hb dX3_versions_7 (by decide) ?_
    refine lv_aload_n hx hb dX3_versions_14 rfl (lv_at hl 0 rfl) ?_
    refine hc_g_keyn G (in_X3_versions_X0) hP (hk) 4 (by decide) (by decide +kernel) (.int (nI (HM.vk (x) (k)).length)) rfl rfl dX3_versions_15 ?_
    exact ct_iret hx hb hr hlocks (by rw [HM.versionsA, eM]) hP hS dX3_versions_18
theorem in_X3_stamp_X3 : ∀ w ∈ u_ws RX3 TX3 6, w ∈ wsX3_stamp := by decide +kernel
theorem in_X3_stamp_X2 : ∀ w ∈ u_ws RX2 TX2 9, w ∈ wsX3_stamp := by decide +kernel
set_option maxHeartbeats 4000000 in
set_option maxRecDepth 100000 in
/-- c_stamp -/
theorem c_stamp (l : Launch) (D : va_G) (cy : Nat → ClassId) (ad : Nat → Nat) (ho : hc_ok ad) (x : HM) (z : Int32) : Ct l yX3_stamp wsX3_stamp ({ frames := 1, cells := 0, slots := 0, locals := 21 }) D cy (hc_A ad) [.ref (ad 0), .int (z)] (hc_mem ad cy (x)) (some (.long (x.stampA z))) (hc_mem ad cy (x)) := by
  rcases hs_rng z (b := 8) (by decide) with hz | ⟨t, ht, rfl⟩
  · refine ct_of (cc := cX3_stamp) (maxL := 3) (ret := (some .long)) rfl (by decide) (Nat.le_of_ble_eq_true rfl) ?_
    intro p e s m below meth c ls G hx hb hml hr hlocks hP hS hl
    have hl : lv_has ls 3 [(0, .ref (ad 0)), (1, .int (z))] := hl
    refine lv_aload_n hx hb dX3_stamp_0 rfl (lv_at hl 0 rfl) ?_
    refine lv_iload_n hx hb dX3_stamp_1 rfl (lv_at hl 1 rfl) ?_
    refine hs_callV (n := 1) (As := [.int (z)]) (rest := []) G hml (c_transactionAt_no l D cy ad ho (x) (z) hz) gX3_stamp_X3_transactionAt rfl rfl rfl (by decide +kernel) ⟨Nat.le_of_ble_eq_true rfl, Nat.le_of_ble_eq_true rfl⟩ (ci := 3) rfl rfl (hc_at_top (j := 0) (by decide)) rfl hl.1 (Nat.le_of_ble_eq_true rfl) ⟨Nat.zero_le _, Nat.zero_le _⟩ hP hS (fun _ h => h) rfl dX3_stamp_2 (fun H locs hP hS _ _ => ?_)
    refine lv_astore_nN (lv' := [(2, .null), (0, .ref (ad 0)), (1, .int (z))]) hx hb dX3_stamp_5 rfl hl (by decide) rfl (fun ls hl => ?_)
    refine lv_aload_nN hx hb dX3_stamp_6 rfl (lv_at hl 0 rfl) ?_
    refine lv_ifnullN (tgt := 25) hx hb dX3_stamp_7 (by decide) ?_
    refine lv_ldc2 (v := (-1)) hx hb G.2.2.2.1 (G.2.2.1 (.constantLong RX3 53 (-1)) (by decide +kernel)) dX3_stamp_25 ?_
    exact ct_lret hx hb hr hlocks (by rw [HM.stampA, hs_n_out hz]) hP hS dX3_stamp_28
  · have eM := hs_n_in ht (show 8 < 2 ^ 31 by decide)
    refine ct_of (cc := cX3_stamp) (maxL := 3) (ret := (some .long)) rfl (by decide) (Nat.le_of_ble_eq_true rfl) ?_
    intro p e s m below meth c ls G hx hb hml hr hlocks hP hS hl
    have hl : lv_has ls 3 [(0, .ref (ad 0)), (1, .int (nI t))] := hl
    refine lv_aload_n hx hb dX3_stamp_0 rfl (lv_at hl 0 rfl) ?_
    refine lv_iload_n hx hb dX3_stamp_1 rfl (lv_at hl 1 rfl) ?_
    refine hs_callV (n := 1) (As := [.int (nI t)]) (rest := []) G hml (c_transactionAt l D cy ad ho (x) ht) gX3_stamp_X3_transactionAt rfl rfl rfl (by decide +kernel) ⟨Nat.le_of_ble_eq_true rfl, Nat.le_of_ble_eq_true rfl⟩ (ci := 3) rfl rfl (hc_at_top (j := 0) (by decide)) rfl hl.1 (Nat.le_of_ble_eq_true rfl) ⟨Nat.zero_le _, Nat.zero_le _⟩ hP hS (fun _ h => h) rfl dX3_stamp_2 (fun H locs hP hS _ _ => ?_)
    refine lv_astore_n (lv' := [(2, .ref (ad (57 + t))), (0, .ref (ad 0)), (1, .int (nI t))]) hx hb dX3_stamp_5 rfl hl (by decide) rfl (fun ls hl => ?_)
    refine lv_aload_n hx hb dX3_stamp_6 rfl (lv_at hl 0 rfl) ?_
    refine lv_ifnull hx hb dX3_stamp_7 ?_
    refine lv_aload_n hx hb dX3_stamp_10 rfl (lv_at hl 0 rfl) ?_
    refine hc_g_txn G (in_X3_stamp_X2) hP (ht) 0 (by decide) (by decide +kernel) (.int (HM.ph (x) (t))) rfl rfl dX3_stamp_11 ?_
    refine lv_if_eq (tgt := 25) hx hb dX3_stamp_14 (by decide) (fun c_1 => ?_) (fun c_1 => ?_)
    · refine lv_ldc2 (v := (-1)) hx hb G.2.2.2.1 (G.2.2.1 (.constantLong RX3 53 (-1)) (by decide +kernel)) dX3_stamp_25 ?_
      have eA : x.stampA (nI t) = if x.ph t = 0 then -1 else if x.ph t = 3 then -1 else x.rs t := by rw [HM.stampA, eM]
      exact ct_lret hx hb hr hlocks (by rw [eA, if_pos c_1]) hP hS dX3_stamp_28
    · refine lv_aload_n hx hb dX3_stamp_17 rfl (lv_at hl 0 rfl) ?_
      refine hc_g_txn G (in_X3_stamp_X2) hP (ht) 0 (by decide) (by decide +kernel) (.int (HM.ph (x) (t))) rfl rfl dX3_stamp_18 ?_
      refine lv_iconst (v := 3) hx hb dX3_stamp_21 (by decide) ?_
      refine lv_icmp_ne (tgt := 29) hx hb dX3_stamp_22 (by decide) (fun c_2 => ?_) (fun c_2 => ?_)
      · refine lv_aload_n hx hb dX3_stamp_29 rfl (lv_at hl 0 rfl) ?_
        refine hc_g_txn G (in_X3_stamp_X2) hP (ht) 4 (by decide) (by decide +kernel) (.long (HM.rs (x) (t))) rfl rfl dX3_stamp_30 ?_
        have eA : x.stampA (nI t) = if x.ph t = 0 then -1 else if x.ph t = 3 then -1 else x.rs t := by rw [HM.stampA, eM]
        exact ct_lret hx hb hr hlocks (by rw [eA, if_neg c_1, if_neg c_2]) hP hS dX3_stamp_33
      · refine lv_ldc2 (v := (-1)) hx hb G.2.2.2.1 (G.2.2.1 (.constantLong RX3 53 (-1)) (by decide +kernel)) dX3_stamp_25 ?_
        have eA : x.stampA (nI t) = if x.ph t = 0 then -1 else if x.ph t = 3 then -1 else x.rs t := by rw [HM.stampA, eM]
        exact ct_lret hx hb hr hlocks (by rw [eA, if_neg c_1, if_pos c_2]) hP hS dX3_stamp_28
theorem in_X3_tick_X3 : ∀ w ∈ u_ws RX3 TX3 6, w ∈ wsX3_tick := by decide +kernel
theorem in_X3_tick_X1 : ∀ w ∈ u_ws RX1 TX1 2, w ∈ wsX3_tick := by decide +kernel
set_option maxHeartbeats 4000000 in
set_option maxRecDepth 100000 in
/-- c_tick -/
theorem c_tick (l : Launch) (D : va_G) (cy : Nat → ClassId) (ad : Nat → Nat) (ho : hc_ok ad) (x : HM) (z : Int32) (r : Int32) : Ct l yX3_tick wsX3_tick ({ frames := 3, cells := 0, slots := 0, locals := 70 }) D cy (hc_A ad) [.ref (ad 0), .int (z), .int (r)] (hc_mem ad cy (x)) (some (.int (x.tickA z r))) (hc_mem ad cy (x.tickM z r)) := by
  rcases hs_rng z (b := 4) (by decide) with hz | ⟨i, hi, rfl⟩
  · refine ct_of (cc := cX3_tick) (maxL := 4) (ret := (some .int)) rfl (by decide) (Nat.le_of_ble_eq_true rfl) ?_
    intro p e s m below meth c ls G hx hb hml hr hlocks hP hS hl
    have hl : lv_has ls 4 [(0, .ref (ad 0)), (1, .int (z)), (2, .int (r))] := hl
    refine lv_aload_n hx hb dX3_tick_0 rfl (lv_at hl 0 rfl) ?_
    refine lv_iload_n hx hb dX3_tick_1 rfl (lv_at hl 1 rfl) ?_
    refine hs_callV (n := 1) (As := [.int (z)]) (rest := []) G hml (c_nodeAt_no l D cy ad ho (x) (z) hz) gX3_tick_X3_nodeAt rfl rfl rfl (by decide +kernel) ⟨Nat.le_of_ble_eq_true rfl, Nat.le_of_ble_eq_true rfl⟩ (ci := 3) rfl rfl (hc_at_top (j := 0) (by decide)) rfl hl.1 (Nat.le_of_ble_eq_true rfl) ⟨Nat.zero_le _, Nat.zero_le _⟩ hP hS (fun _ h => h) rfl dX3_tick_2 (fun H locs hP hS _ _ => ?_)
    refine lv_astore_nN (lv' := [(3, .null), (0, .ref (ad 0)), (1, .int (z)), (2, .int (r))]) hx hb dX3_tick_5 rfl hl (by decide) rfl (fun ls hl => ?_)
    refine lv_aload_nN hx hb dX3_tick_6 rfl (lv_at hl 0 rfl) ?_
    refine lv_ifnonnullN hx hb dX3_tick_7 ?_
    refine lv_iconst (v := (-1)) hx hb dX3_tick_10 (by decide) ?_
    exact ct_iret hx hb hr hlocks (by rw [HM.tickA, hs_n_out hz]) (by rw [HM.tickM, hs_n_out hz]; exact hP) hS dX3_tick_11
  · have eM := hs_n_in hi (show 4 < 2 ^ 31 by decide)
    refine ct_of (cc := cX3_tick) (maxL := 4) (ret := (some .int)) rfl (by decide) (Nat.le_of_ble_eq_true rfl) ?_
    intro p e s m below meth c ls G hx hb hml hr hlocks hP hS hl
    have hl : lv_has ls 4 [(0, .ref (ad 0)), (1, .int (nI i)), (2, .int (r))] := hl
    refine lv_aload_n hx hb dX3_tick_0 rfl (lv_at hl 0 rfl) ?_
    refine lv_iload_n hx hb dX3_tick_1 rfl (lv_at hl 1 rfl) ?_
    refine hs_callV (n := 1) (As := [.int (nI i)]) (rest := []) G hml (c_nodeAt l D cy ad ho (x) hi) gX3_tick_X3_nodeAt rfl rfl rfl (by decide +kernel) ⟨Nat.le_of_ble_eq_true rfl, Nat.le_of_ble_eq_true rfl⟩ (ci := 3) rfl rfl (hc_at_top (j := 0) (by decide)) rfl hl.1 (Nat.le_of_ble_eq_true rfl) ⟨Nat.zero_le _, Nat.zero_le _⟩ hP hS (fun _ h => h) rfl dX3_tick_2 (fun H locs hP hS _ _ => ?_)
    refine lv_astore_n (lv' := [(3, .ref (ad (5 + i))), (0, .ref (ad 0)), (1, .int (nI i)), (2, .int (r))]) hx hb dX3_tick_5 rfl hl (by decide) rfl (fun ls hl => ?_)
    refine lv_aload_n hx hb dX3_tick_6 rfl (lv_at hl 0 rfl) ?_
    refine lv_ifnonnull (tgt := 12) hx hb dX3_tick_7 (by decide) ?_
    refine lv_iload_n hx hb dX3_tick_12 rfl (lv_at hl 3 rfl) ?_
    refine lv_aload_n hx hb dX3_tick_13 rfl (lv_at hl 0 rfl) ?_
    refine hc_g_noden G (in_X3_tick_X1) hP (hi) 0 (by decide) (by decide +kernel) (.int (HM.rd (x) (i))) rfl rfl dX3_tick_14 ?_
    refine lv_icmp_lt (tgt := 29) hx hb dX3_tick_17 (by decide) (fun c_1 => ?_) (fun c_1 => ?_)
    · refine lv_bipush (v := (-2)) hx hb dX3_tick_29 (by decide) ?_
      have eA : x.tickA (nI i) r = if r < x.rd i then -2 else if hs_ra x.rd i r 4 0 then -2 else 0 := by rw [HM.tickA, eM]
      have eB : x.tickM (nI i) r = if r < x.rd i then x else if hs_ra x.rd i r 4 0 then x else (x.u_rd i r).ev i := by rw [HM.tickM, eM]
      exact ct_iret hx hb hr hlocks (by rw [eA, if_pos c_1]) (by rw [eB, if_pos c_1]; exact hP) hS dX3_tick_31
    · refine lv_aload_n hx hb dX3_tick_20 rfl (lv_at hl 1 rfl) ?_
      refine lv_aload_n hx hb dX3_tick_21 rfl (lv_at hl 0 rfl) ?_
      refine lv_iload_n hx hb dX3_tick_22 rfl (lv_at hl 3 rfl) ?_
      refine hs_callV (n := 2) (As := [.ref (ad (5 + i)), .int (r)]) (rest := []) G hml (c_runsAhead l D cy ad ho (x) (hi) (r)) gX3_tick_X3_runsAhead rfl rfl rfl (by decide +kernel) ⟨Nat.le_of_ble_eq_true rfl, Nat.le_of_ble_eq_true rfl⟩ (ci := 3) rfl rfl (hc_at_top (j := 0) (by decide)) rfl hl.1 (Nat.le_of_ble_eq_true rfl) ⟨Nat.zero_le _, Nat.zero_le _⟩ hP hS (fun _ h => h) rfl dX3_tick_23 (fun H locs hP hS _ _ => ?_)
      refine lv_if_eq (tgt := 32) hx hb dX3_tick_26 (by decide) (fun c_2 => ?_) (fun c_2 => ?_)
      · have hra : hs_ra x.rd i r 4 0 = false := by
          cases hq : hs_ra x.rd i r 4 0 with
          | false => rfl
          | true => rw [hq] at c_2; exact absurd c_2 (by decide)
        refine lv_aload_n hx hb dX3_tick_32 rfl (lv_at hl 0 rfl) ?_
        refine lv_iload_n hx hb dX3_tick_33 rfl (lv_at hl 3 rfl) ?_
        refine hc_p_noden ho G (in_X3_tick_X1) hP hS (hi) 0 (by decide) (by decide +kernel) (.int (r)) rfl rfl (.int) (by decide +kernel) rfl rfl (Nat.le_of_ble_eq_true rfl) (HM.u_rd (x) (i) (r)) (hc_s_rd (v := r) (hi)) dX3_tick_34 (fun H locs hP hS => ?_)
        refine lv_aload_n hx hb dX3_tick_37 rfl (lv_at hl 0 rfl) ?_
        refine hs_callN (n := 0) (As := []) (rest := []) G hml (c_haveEvent l D cy ad ho (HM.u_rd (x) (i) (r)) (hi)) gX3_tick_X1_haveEvent_n50 rfl rfl rfl (by decide +kernel) (by decide +kernel) (by decide +kernel) (C := RX1) (by decide +kernel) (by decide +kernel) ⟨Nat.le_of_ble_eq_true rfl, Nat.le_of_ble_eq_true rfl⟩ (ci := 1) rfl rfl (hc_at_node (hi)) rfl hl.1 (Nat.le_of_ble_eq_true rfl) ⟨Nat.zero_le _, Nat.zero_le _⟩ hP hS (fun _ h => h) rfl dX3_tick_38 (fun H locs hP hS _ _ => ?_)
        refine lv_iconst (v := 0) hx hb dX3_tick_41 (by decide) ?_
        have eA : x.tickA (nI i) r = if r < x.rd i then -2 else if hs_ra x.rd i r 4 0 then -2 else 0 := by rw [HM.tickA, eM]
        have eB : x.tickM (nI i) r = if r < x.rd i then x else if hs_ra x.rd i r 4 0 then x else (x.u_rd i r).ev i := by rw [HM.tickM, eM]
        exact ct_iret hx hb hr hlocks (by rw [eA, if_neg c_1, if_neg (by rw [hra]; decide)]) (by rw [eB, if_neg c_1, if_neg (by rw [hra]; decide)]; exact hP) hS dX3_tick_42
      · have hra : hs_ra x.rd i r 4 0 = true := by
          cases hq : hs_ra x.rd i r 4 0 with
          | true => rfl
          | false => rw [hq] at c_2; exact absurd rfl c_2
        refine lv_bipush (v := (-2)) hx hb dX3_tick_29 (by decide) ?_
        have eA : x.tickA (nI i) r = if r < x.rd i then -2 else if hs_ra x.rd i r 4 0 then -2 else 0 := by rw [HM.tickA, eM]
        have eB : x.tickM (nI i) r = if r < x.rd i then x else if hs_ra x.rd i r 4 0 then x else (x.u_rd i r).ev i := by rw [HM.tickM, eM]
        exact ct_iret hx hb hr hlocks (by rw [eA, if_neg c_1, if_pos hra]) (by rw [eB, if_neg c_1, if_pos hra]; exact hP) hS dX3_tick_31
theorem in_X3_begin_X3 : ∀ w ∈ u_ws RX3 TX3 6, w ∈ wsX3_begin := by decide +kernel
theorem in_X3_begin_X1 : ∀ w ∈ u_ws RX1 TX1 2, w ∈ wsX3_begin := by decide +kernel
theorem in_X3_begin_X2 : ∀ w ∈ u_ws RX2 TX2 9, w ∈ wsX3_begin := by decide +kernel
set_option maxHeartbeats 4000000 in
set_option maxRecDepth 100000 in
/-- c_begin -/
theorem c_begin (l : Launch) (D : va_G) (cy : Nat → ClassId) (ad : Nat → Nat) (ho : hc_ok ad) (x : HM) (z : Int32) : Ct l yX3_begin wsX3_begin ({ frames := 3, cells := 0, slots := 0, locals := 70 }) D cy (hc_A ad) [.ref (ad 0), .int (z)] (hc_mem ad cy (x)) (some (.int (x.beginA z))) (hc_mem ad cy (x.beginM z)) := by
  rcases hs_rng z (b := 4) (by decide) with hz | ⟨i, hi, rfl⟩
  · refine ct_of (cc := cX3_begin) (maxL := 4) (ret := (some .int)) rfl (by decide) (Nat.le_of_ble_eq_true rfl) ?_
    intro p e s m below meth c ls G hx hb hml hr hlocks hP hS hl
    have hl : lv_has ls 4 [(0, .ref (ad 0)), (1, .int (z))] := hl
    refine lv_aload_n hx hb dX3_begin_0 rfl (lv_at hl 0 rfl) ?_
    refine lv_iload_n hx hb dX3_begin_1 rfl (lv_at hl 1 rfl) ?_
    refine hs_callV (n := 1) (As := [.int (z)]) (rest := []) G hml (c_nodeAt_no l D cy ad ho (x) (z) hz) gX3_begin_X3_nodeAt rfl rfl rfl (by decide +kernel) ⟨Nat.le_of_ble_eq_true rfl, Nat.le_of_ble_eq_true rfl⟩ (ci := 3) rfl rfl (hc_at_top (j := 0) (by decide)) rfl hl.1 (Nat.le_of_ble_eq_true rfl) ⟨Nat.zero_le _, Nat.zero_le _⟩ hP hS (fun _ h => h) rfl dX3_begin_2 (fun H locs hP hS _ _ => ?_)
    refine lv_astore_nN (lv' := [(2, .null), (0, .ref (ad 0)), (1, .int (z))]) hx hb dX3_begin_5 rfl hl (by decide) rfl (fun ls hl => ?_)
    refine lv_aload_nN hx hb dX3_begin_6 rfl (lv_at hl 0 rfl) ?_
    refine lv_ifnonnullN hx hb dX3_begin_7 ?_
    refine lv_iconst (v := (-1)) hx hb dX3_begin_10 (by decide) ?_
    exact ct_iret hx hb hr hlocks (by rw [HM.beginA, hs_n_out hz]) (by rw [HM.beginM, hs_n_out hz]; exact hP) hS dX3_begin_11
  · have eM := hs_n_in hi (show 4 < 2 ^ 31 by decide)
    refine ct_of (cc := cX3_begin) (maxL := 4) (ret := (some .int)) rfl (by decide) (Nat.le_of_ble_eq_true rfl) ?_
    intro p e s m below meth c ls G hx hb hml hr hlocks hP hS hl
    have hl : lv_has ls 4 [(0, .ref (ad 0)), (1, .int (nI i))] := hl
    refine lv_aload_n hx hb dX3_begin_0 rfl (lv_at hl 0 rfl) ?_
    refine lv_iload_n hx hb dX3_begin_1 rfl (lv_at hl 1 rfl) ?_
    refine hs_callV (n := 1) (As := [.int (nI i)]) (rest := []) G hml (c_nodeAt l D cy ad ho (x) hi) gX3_begin_X3_nodeAt rfl rfl rfl (by decide +kernel) ⟨Nat.le_of_ble_eq_true rfl, Nat.le_of_ble_eq_true rfl⟩ (ci := 3) rfl rfl (hc_at_top (j := 0) (by decide)) rfl hl.1 (Nat.le_of_ble_eq_true rfl) ⟨Nat.zero_le _, Nat.zero_le _⟩ hP hS (fun _ h => h) rfl dX3_begin_2 (fun H locs hP hS _ _ => ?_)
    refine lv_astore_n (lv' := [(2, .ref (ad (5 + i))), (0, .ref (ad 0)), (1, .int (nI i))]) hx hb dX3_begin_5 rfl hl (by decide) rfl (fun ls hl => ?_)
    refine lv_aload_n hx hb dX3_begin_6 rfl (lv_at hl 0 rfl) ?_
    refine lv_ifnonnull (tgt := 12) hx hb dX3_begin_7 (by decide) ?_
    refine lv_aload_n hx hb dX3_begin_12 rfl (lv_at hl 1 rfl) ?_
    refine hs_callV (n := 0) (As := []) (rest := []) G hml (c_leastFree l D cy ad ho (x)) gX3_begin_X3_leastFreeSlot rfl rfl rfl (by decide +kernel) ⟨Nat.le_of_ble_eq_true rfl, Nat.le_of_ble_eq_true rfl⟩ (ci := 3) rfl rfl (hc_at_top (j := 0) (by decide)) rfl hl.1 (Nat.le_of_ble_eq_true rfl) ⟨Nat.zero_le _, Nat.zero_le _⟩ hP hS (fun _ h => h) rfl dX3_begin_13 (fun H locs hP hS _ _ => ?_)
    refine lv_istore_n (lv' := [(3, .int (hs_ix (hs_fr (HM.ph (x)) 8 0))), (2, .ref (ad (5 + i))), (0, .ref (ad 0)), (1, .int (nI i))]) hx hb dX3_begin_16 rfl hl (by decide) rfl (fun ls hl => ?_)
    refine lv_iload_n hx hb dX3_begin_17 rfl (lv_at hl 0 rfl) ?_
    refine lv_iconst (v := (-1)) hx hb dX3_begin_18 (by decide) ?_
    refine lv_icmp_ne (tgt := 25) hx hb dX3_begin_19 (by decide) (fun c_1 => ?_) (fun c_1 => ?_)
    · obtain ⟨t, hft⟩ : ∃ t, hs_fr x.ph 8 0 = some t := by
        cases hq : hs_fr x.ph 8 0 with
        | none => rw [hq] at c_1; exact absurd rfl c_1
        | some t => exact ⟨t, rfl⟩
      have ht : t < 8 := hs_fr_lt hft
      have hjx : hs_ix (hs_fr (HM.ph x) 8 0) = nI t := by rw [hft]; rfl
      refine lv_aload_n hx hb dX3_begin_25 rfl (lv_at hl 1 rfl) ?_
      refine hs_callN (n := 0) (As := []) (rest := []) G hml (c_haveEvent l D cy ad ho (x) (hi)) gX3_begin_X1_haveEvent_n50 rfl rfl rfl (by decide +kernel) (by decide +kernel) (by decide +kernel) (C := RX1) (by decide +kernel) (by decide +kernel) ⟨Nat.le_of_ble_eq_true rfl, Nat.le_of_ble_eq_true rfl⟩ (ci := 1) rfl rfl (hc_at_node (hi)) rfl hl.1 (Nat.le_of_ble_eq_true rfl) ⟨Nat.zero_le _, Nat.zero_le _⟩ hP hS (fun _ h => h) rfl dX3_begin_26 (fun H locs hP hS _ _ => ?_)
      refine lv_aload_n hx hb dX3_begin_29 rfl (lv_at hl 2 rfl) ?_
      refine hc_g_store G (in_X3_begin_X3) hP 2 (by decide) (by decide +kernel) (.ref (ad 3)) rfl rfl dX3_begin_30 ?_
      refine lv_iload_n hx hb dX3_begin_33 rfl (lv_at hl 0 rfl) ?_
      refine va_aldq hx hb G.2.2.2.2.1 hP 3 5 (hc_at_top (by decide)) rfl (hs_in (k := t) (n := 8) (by rw [hjx]; exact nI_clamp (by omega)) (by rw [hjx]; exact hs_inN (by omega) (by decide))) dX3_begin_34 ?_
      rw [show Int32.toNatClampNeg (hs_ix (hs_fr (HM.ph (x)) 8 0)) = t from by rw [hjx]; exact nI_clamp (by omega)]
      show W _ _ _ _ _ _ _ _ _ _ _ _ _ _ _ (F0 m (34 + 1) ls (.ref (ad (57 + t)) :: []))
      refine lv_aload_n hx hb dX3_begin_35 rfl (lv_at hl 1 rfl) ?_
      refine lv_aload_n hx hb dX3_begin_36 rfl (lv_at hl 2 rfl) ?_
      refine hc_g_store G (in_X3_begin_X3) hP 5 (by decide) (by decide +kernel) (.int (nI (HM.bs (HM.ev (x) (i))))) rfl rfl dX3_begin_37 ?_
      refine hs_callN (n := 2) (As := [.ref (ad (5 + i)), .int (nI (HM.bs (HM.ev (x) (i))))]) (rest := []) G hml (c_start l D cy ad ho (HM.ev (x) (i)) (ht) (hi) (HM.bs x)) gX3_begin_X2_start_n66 rfl rfl rfl (by decide +kernel) (by decide +kernel) (by decide +kernel) (C := RX2) (by decide +kernel) (by decide +kernel) ⟨Nat.le_of_ble_eq_true rfl, Nat.le_of_ble_eq_true rfl⟩ (ci := 2) rfl rfl (hc_at_tx (ht)) rfl hl.1 (Nat.le_of_ble_eq_true rfl) ⟨Nat.zero_le _, Nat.zero_le _⟩ hP hS (fun _ h => h) rfl dX3_begin_40 (fun H locs hP hS _ _ => ?_)
      refine lv_aload_n hx hb dX3_begin_43 rfl (lv_at hl 2 rfl) ?_
      refine lv_dup hx hb dX3_begin_44 rfl ?_
      refine hc_g_store G (in_X3_begin_X3) hP 5 (by decide) (by decide +kernel) (.int (nI (HM.bs (HM.beg (HM.ev (x) (i)) (t) (i) (HM.bs x))))) rfl rfl dX3_begin_45 ?_
      refine lv_iconst (v := 1) hx hb dX3_begin_48 (by decide) ?_
      refine lv_iadd hx hb dX3_begin_49 ?_
      rw [nI_1]
      refine hc_p_store ho G (in_X3_begin_X3) hP hS 5 (by decide) (by decide +kernel) (.int (nI (HM.bs x + 1))) rfl rfl (.int) (by decide +kernel) rfl rfl (Nat.le_of_ble_eq_true rfl) (HM.s_bs (HM.beg (HM.ev (x) (i)) (t) (i) (HM.bs x)) (HM.bs x + 1)) hc_s_bs dX3_begin_50 (fun H locs hP hS => ?_)
      refine lv_iload_n hx hb dX3_begin_53 rfl (lv_at hl 0 rfl) ?_
      exact ct_iret hx hb hr hlocks (by rw [HM.beginA, eM, hft]; rfl) (by rw [HM.beginM, eM, hft]; exact hP) hS dX3_begin_54
    · have hft : hs_fr x.ph 8 0 = none := by
        cases hq : hs_fr x.ph 8 0 with
        | none => rfl
        | some t => rw [hq] at c_1; exact absurd c_1 (hs_nI_m1 (by have := hs_fr_lt hq; omega))
      refine lv_bipush (v := (-3)) hx hb dX3_begin_22 (by decide) ?_
      exact ct_iret hx hb hr hlocks (by rw [HM.beginA, eM, hft]) (by rw [HM.beginM, eM, hft]; exact hP) hS dX3_begin_24
theorem in_X3_abort_X3 : ∀ w ∈ u_ws RX3 TX3 6, w ∈ wsX3_abort := by decide +kernel
theorem in_X3_abort_X2 : ∀ w ∈ u_ws RX2 TX2 9, w ∈ wsX3_abort := by decide +kernel
set_option maxHeartbeats 4000000 in
set_option maxRecDepth 100000 in
/-- c_abort -/
theorem c_abort (l : Launch) (D : va_G) (cy : Nat → ClassId) (ad : Nat → Nat) (ho : hc_ok ad) (x : HM) (z : Int32) : Ct l yX3_abort wsX3_abort ({ frames := 1, cells := 0, slots := 0, locals := 21 }) D cy (hc_A ad) [.ref (ad 0), .int (z)] (hc_mem ad cy (x)) (some (.int (x.codeA z))) (hc_mem ad cy (x.abortM z)) := by
  rcases hs_rng z (b := 8) (by decide) with hz | ⟨t, ht, rfl⟩
  · refine ct_of (cc := cX3_abort) (maxL := 4) (ret := (some .int)) rfl (by decide) (Nat.le_of_ble_eq_true rfl) ?_
    intro p e s m below meth c ls G hx hb hml hr hlocks hP hS hl
    have hl : lv_has ls 4 [(0, .ref (ad 0)), (1, .int (z))] := hl
    refine lv_aload_n hx hb dX3_abort_0 rfl (lv_at hl 0 rfl) ?_
    refine lv_iload_n hx hb dX3_abort_1 rfl (lv_at hl 1 rfl) ?_
    refine hs_callV (n := 1) (As := [.int (z)]) (rest := []) G hml (c_transactionAt_no l D cy ad ho (x) (z) hz) gX3_abort_X3_transactionAt rfl rfl rfl (by decide +kernel) ⟨Nat.le_of_ble_eq_true rfl, Nat.le_of_ble_eq_true rfl⟩ (ci := 3) rfl rfl (hc_at_top (j := 0) (by decide)) rfl hl.1 (Nat.le_of_ble_eq_true rfl) ⟨Nat.zero_le _, Nat.zero_le _⟩ hP hS (fun _ h => h) rfl dX3_abort_2 (fun H locs hP hS _ _ => ?_)
    refine lv_astore_nN (lv' := [(2, .null), (0, .ref (ad 0)), (1, .int (z))]) hx hb dX3_abort_5 rfl hl (by decide) rfl (fun ls hl => ?_)
    refine lv_aload_nN hx hb dX3_abort_6 rfl (lv_at hl 0 rfl) ?_
    refine lv_ifnonnullN hx hb dX3_abort_7 ?_
    refine lv_iconst (v := (-1)) hx hb dX3_abort_10 (by decide) ?_
    exact ct_iret hx hb hr hlocks (by rw [HM.codeA, hs_n_out hz]) (by rw [HM.abortM, hs_n_out hz]; exact hP) hS dX3_abort_11
  · have eM := hs_n_in ht (show 8 < 2 ^ 31 by decide)
    refine ct_of (cc := cX3_abort) (maxL := 4) (ret := (some .int)) rfl (by decide) (Nat.le_of_ble_eq_true rfl) ?_
    intro p e s m below meth c ls G hx hb hml hr hlocks hP hS hl
    have hl : lv_has ls 4 [(0, .ref (ad 0)), (1, .int (nI t))] := hl
    refine lv_aload_n hx hb dX3_abort_0 rfl (lv_at hl 0 rfl) ?_
    refine lv_iload_n hx hb dX3_abort_1 rfl (lv_at hl 1 rfl) ?_
    refine hs_callV (n := 1) (As := [.int (nI t)]) (rest := []) G hml (c_transactionAt l D cy ad ho (x) ht) gX3_abort_X3_transactionAt rfl rfl rfl (by decide +kernel) ⟨Nat.le_of_ble_eq_true rfl, Nat.le_of_ble_eq_true rfl⟩ (ci := 3) rfl rfl (hc_at_top (j := 0) (by decide)) rfl hl.1 (Nat.le_of_ble_eq_true rfl) ⟨Nat.zero_le _, Nat.zero_le _⟩ hP hS (fun _ h => h) rfl dX3_abort_2 (fun H locs hP hS _ _ => ?_)
    refine lv_astore_n (lv' := [(2, .ref (ad (57 + t))), (0, .ref (ad 0)), (1, .int (nI t))]) hx hb dX3_abort_5 rfl hl (by decide) rfl (fun ls hl => ?_)
    refine lv_aload_n hx hb dX3_abort_6 rfl (lv_at hl 0 rfl) ?_
    refine lv_ifnonnull (tgt := 12) hx hb dX3_abort_7 (by decide) ?_
    refine lv_aload_n hx hb dX3_abort_12 rfl (lv_at hl 0 rfl) ?_
    refine hs_callN (n := 0) (As := []) (rest := []) G hml (c_codeOfState l D cy ad ho (x) (ht)) gX3_abort_X2_codeOfState_n124 rfl rfl rfl (by decide +kernel) (by decide +kernel) (by decide +kernel) (C := RX2) (by decide +kernel) (by decide +kernel) ⟨Nat.le_of_ble_eq_true rfl, Nat.le_of_ble_eq_true rfl⟩ (ci := 2) rfl rfl (hc_at_tx (ht)) rfl hl.1 (Nat.le_of_ble_eq_true rfl) ⟨Nat.zero_le _, Nat.zero_le _⟩ hP hS (fun _ h => h) rfl dX3_abort_13 (fun H locs hP hS _ _ => ?_)
    refine lv_istore_n (lv' := [(3, .int (HM.code (x) (t))), (2, .ref (ad (57 + t))), (0, .ref (ad 0)), (1, .int (nI t))]) hx hb dX3_abort_16 rfl hl (by decide) rfl (fun ls hl => ?_)
    refine lv_iload_n hx hb dX3_abort_17 rfl (lv_at hl 0 rfl) ?_
    refine lv_if_ne (tgt := 26) hx hb dX3_abort_18 (by decide) (fun c_1 => ?_) (fun c_1 => ?_)
    · refine lv_iload_n hx hb dX3_abort_26 rfl (lv_at hl 0 rfl) ?_
      have eB : x.abortM (nI t) = if x.code t = 0 then x.u_ph t 3 else x := by rw [HM.abortM, eM]
      exact ct_iret hx hb hr hlocks (by rw [HM.codeA, eM]) (by rw [eB, if_neg c_1]; exact hP) hS dX3_abort_27
    · refine lv_aload_n hx hb dX3_abort_21 rfl (lv_at hl 1 rfl) ?_
      refine lv_iconst (v := 3) hx hb dX3_abort_22 (by decide) ?_
      refine hc_p_txn ho G (in_X3_abort_X2) hP hS (ht) 0 (by decide) (by decide +kernel) (.int (3)) rfl rfl (.int) (by decide +kernel) rfl rfl (Nat.le_of_ble_eq_true rfl) (HM.u_ph (x) (t) (3)) (hc_s_ph (v := 3) (ht)) dX3_abort_23 (fun H locs hP hS => ?_)
      refine lv_iload_n hx hb dX3_abort_26 rfl (lv_at hl 0 rfl) ?_
      have eB : x.abortM (nI t) = if x.code t = 0 then x.u_ph t 3 else x := by rw [HM.abortM, eM]
      exact ct_iret hx hb hr hlocks (by rw [HM.codeA, eM]) (by rw [eB, if_pos c_1]; exact hP) hS dX3_abort_27
theorem in_X3_heartbeat_X3 : ∀ w ∈ u_ws RX3 TX3 6, w ∈ wsX3_heartbeat := by decide +kernel
theorem in_X3_heartbeat_X2 : ∀ w ∈ u_ws RX2 TX2 9, w ∈ wsX3_heartbeat := by decide +kernel
theorem in_X3_heartbeat_X1 : ∀ w ∈ u_ws RX1 TX1 2, w ∈ wsX3_heartbeat := by decide +kernel
set_option maxHeartbeats 4000000 in
set_option maxRecDepth 100000 in
/-- c_heartbeat -/
theorem c_heartbeat (l : Launch) (D : va_G) (cy : Nat → ClassId) (ad : Nat → Nat) (ho : hc_ok ad) (x : HM) (B : Int) (hIn : x.In B) (z : Int32) : Ct l yX3_heartbeat wsX3_heartbeat ({ frames := 3, cells := 0, slots := 0, locals := 70 }) D cy (hc_A ad) [.ref (ad 0), .int (z)] (hc_mem ad cy (x)) (some (.int (x.codeA z))) (hc_mem ad cy (x.heartM z)) := by
  rcases hs_rng z (b := 8) (by decide) with hz | ⟨t, ht, rfl⟩
  · refine ct_of (cc := cX3_heartbeat) (maxL := 4) (ret := (some .int)) rfl (by decide) (Nat.le_of_ble_eq_true rfl) ?_
    intro p e s m below meth c ls G hx hb hml hr hlocks hP hS hl
    have hl : lv_has ls 4 [(0, .ref (ad 0)), (1, .int (z))] := hl
    refine lv_aload_n hx hb dX3_heartbeat_0 rfl (lv_at hl 0 rfl) ?_
    refine lv_iload_n hx hb dX3_heartbeat_1 rfl (lv_at hl 1 rfl) ?_
    refine hs_callV (n := 1) (As := [.int (z)]) (rest := []) G hml (c_transactionAt_no l D cy ad ho (x) (z) hz) gX3_heartbeat_X3_transactionAt rfl rfl rfl (by decide +kernel) ⟨Nat.le_of_ble_eq_true rfl, Nat.le_of_ble_eq_true rfl⟩ (ci := 3) rfl rfl (hc_at_top (j := 0) (by decide)) rfl hl.1 (Nat.le_of_ble_eq_true rfl) ⟨Nat.zero_le _, Nat.zero_le _⟩ hP hS (fun _ h => h) rfl dX3_heartbeat_2 (fun H locs hP hS _ _ => ?_)
    refine lv_astore_nN (lv' := [(2, .null), (0, .ref (ad 0)), (1, .int (z))]) hx hb dX3_heartbeat_5 rfl hl (by decide) rfl (fun ls hl => ?_)
    refine lv_aload_nN hx hb dX3_heartbeat_6 rfl (lv_at hl 0 rfl) ?_
    refine lv_ifnonnullN hx hb dX3_heartbeat_7 ?_
    refine lv_iconst (v := (-1)) hx hb dX3_heartbeat_10 (by decide) ?_
    exact ct_iret hx hb hr hlocks (by rw [HM.codeA, hs_n_out hz]) (by rw [HM.heartM, hs_n_out hz]; exact hP) hS dX3_heartbeat_11
  · have eM := hs_n_in ht (show 8 < 2 ^ 31 by decide)
    refine ct_of (cc := cX3_heartbeat) (maxL := 4) (ret := (some .int)) rfl (by decide) (Nat.le_of_ble_eq_true rfl) ?_
    intro p e s m below meth c ls G hx hb hml hr hlocks hP hS hl
    have hl : lv_has ls 4 [(0, .ref (ad 0)), (1, .int (nI t))] := hl
    refine lv_aload_n hx hb dX3_heartbeat_0 rfl (lv_at hl 0 rfl) ?_
    refine lv_iload_n hx hb dX3_heartbeat_1 rfl (lv_at hl 1 rfl) ?_
    refine hs_callV (n := 1) (As := [.int (nI t)]) (rest := []) G hml (c_transactionAt l D cy ad ho (x) ht) gX3_heartbeat_X3_transactionAt rfl rfl rfl (by decide +kernel) ⟨Nat.le_of_ble_eq_true rfl, Nat.le_of_ble_eq_true rfl⟩ (ci := 3) rfl rfl (hc_at_top (j := 0) (by decide)) rfl hl.1 (Nat.le_of_ble_eq_true rfl) ⟨Nat.zero_le _, Nat.zero_le _⟩ hP hS (fun _ h => h) rfl dX3_heartbeat_2 (fun H locs hP hS _ _ => ?_)
    refine lv_astore_n (lv' := [(2, .ref (ad (57 + t))), (0, .ref (ad 0)), (1, .int (nI t))]) hx hb dX3_heartbeat_5 rfl hl (by decide) rfl (fun ls hl => ?_)
    refine lv_aload_n hx hb dX3_heartbeat_6 rfl (lv_at hl 0 rfl) ?_
    refine lv_ifnonnull (tgt := 12) hx hb dX3_heartbeat_7 (by decide) ?_
    refine lv_aload_n hx hb dX3_heartbeat_12 rfl (lv_at hl 0 rfl) ?_
    refine hs_callN (n := 0) (As := []) (rest := []) G hml (c_codeOfState l D cy ad ho (x) (ht)) gX3_heartbeat_X2_codeOfState_n124 rfl rfl rfl (by decide +kernel) (by decide +kernel) (by decide +kernel) (C := RX2) (by decide +kernel) (by decide +kernel) ⟨Nat.le_of_ble_eq_true rfl, Nat.le_of_ble_eq_true rfl⟩ (ci := 2) rfl rfl (hc_at_tx (ht)) rfl hl.1 (Nat.le_of_ble_eq_true rfl) ⟨Nat.zero_le _, Nat.zero_le _⟩ hP hS (fun _ h => h) rfl dX3_heartbeat_13 (fun H locs hP hS _ _ => ?_)
    refine lv_istore_n (lv' := [(3, .int (HM.code (x) (t))), (2, .ref (ad (57 + t))), (0, .ref (ad 0)), (1, .int (nI t))]) hx hb dX3_heartbeat_16 rfl hl (by decide) rfl (fun ls hl => ?_)
    refine lv_iload_n hx hb dX3_heartbeat_17 rfl (lv_at hl 0 rfl) ?_
    refine lv_if_ne (tgt := 39) hx hb dX3_heartbeat_18 (by decide) (fun c_1 => ?_) (fun c_1 => ?_)
    · refine lv_iload_n hx hb dX3_heartbeat_39 rfl (lv_at hl 0 rfl) ?_
      have eB : x.heartM (nI t) = if x.code t = 0 then (x.ev (x.gt t)).beat t else x := by rw [HM.heartM, eM]
      exact ct_iret hx hb hr hlocks (by rw [HM.codeA, eM]) (by rw [eB, if_neg c_1]; exact hP) hS dX3_heartbeat_40
    · refine lv_aload_n hx hb dX3_heartbeat_21 rfl (lv_at hl 1 rfl) ?_
      refine hc_g_txn G (in_X3_heartbeat_X2) hP (ht) 1 (by decide) (by decide +kernel) (.ref (ad (5 + HM.gt (x) (t)))) rfl rfl dX3_heartbeat_22 ?_
      refine hs_callN (n := 0) (As := []) (rest := []) G hml (c_haveEvent l D cy ad ho (x) ((hIn.gt ht))) gX3_heartbeat_X1_haveEvent_n50 rfl rfl rfl (by decide +kernel) (by decide +kernel) (by decide +kernel) (C := RX1) (by decide +kernel) (by decide +kernel) ⟨Nat.le_of_ble_eq_true rfl, Nat.le_of_ble_eq_true rfl⟩ (ci := 1) rfl rfl (hc_at_node ((hIn.gt ht))) rfl hl.1 (Nat.le_of_ble_eq_true rfl) ⟨Nat.zero_le _, Nat.zero_le _⟩ hP hS (fun _ h => h) rfl dX3_heartbeat_25 (fun H locs hP hS _ _ => ?_)
      refine lv_aload_n hx hb dX3_heartbeat_28 rfl (lv_at hl 1 rfl) ?_
      refine lv_aload_n hx hb dX3_heartbeat_29 rfl (lv_at hl 1 rfl) ?_
      refine hc_g_txn G (in_X3_heartbeat_X2) hP (ht) 1 (by decide) (by decide +kernel) (.ref (ad (5 + HM.gt (HM.ev (x) (HM.gt (x) (t))) (t)))) rfl rfl dX3_heartbeat_30 ?_
      refine hc_g_noden G (in_X3_heartbeat_X1) hP ((hIn.gt ht)) 0 (by decide) (by decide +kernel) (.int (HM.rd (HM.ev (x) (HM.gt (x) (t))) (HM.gt (HM.ev (x) (HM.gt (x) (t))) (t)))) rfl rfl dX3_heartbeat_33 ?_
      refine hc_p_txn ho G (in_X3_heartbeat_X2) hP hS (ht) 2 (by decide) (by decide +kernel) (.int (HM.rd (HM.ev (x) (HM.gt (x) (t))) (HM.gt (HM.ev (x) (HM.gt (x) (t))) (t)))) rfl rfl (.int) (by decide +kernel) rfl rfl (Nat.le_of_ble_eq_true rfl) (HM.u_bt (HM.ev (x) (HM.gt (x) (t))) (t) (HM.rd (HM.ev (x) (HM.gt (x) (t))) (HM.gt (HM.ev (x) (HM.gt (x) (t))) (t)))) (hc_s_bt (v := HM.rd (HM.ev (x) (HM.gt (x) (t))) (HM.gt (HM.ev (x) (HM.gt (x) (t))) (t))) (ht)) dX3_heartbeat_36 (fun H locs hP hS => ?_)
      refine lv_iload_n hx hb dX3_heartbeat_39 rfl (lv_at hl 0 rfl) ?_
      have eB : x.heartM (nI t) = if x.code t = 0 then (x.ev (x.gt t)).beat t else x := by rw [HM.heartM, eM]
      exact ct_iret hx hb hr hlocks (by rw [HM.codeA, eM]) (by rw [eB, if_pos c_1]; exact hP) hS dX3_heartbeat_40
theorem in_X3_committed_X3 : ∀ w ∈ u_ws RX3 TX3 6, w ∈ wsX3_committed := by decide +kernel
set_option maxHeartbeats 4000000 in
set_option maxRecDepth 100000 in
/-- c_committed -/
theorem c_committed (l : Launch) (D : va_G) (cy : Nat → ClassId) (ad : Nat → Nat) (ho : hc_ok ad) (x : HM) (hcm : x.cm.length ≤ 256) (z : Int32) : Ct l yX3_committed wsX3_committed ({ frames := 0, cells := 0, slots := 0, locals := 0 }) D cy (hc_A ad) [.ref (ad 0), .int (z)] (hc_mem ad cy (x)) (some (.long (x.committedA z))) (hc_mem ad cy (x)) := by
  refine ct_of (cc := cX3_committed) (maxL := 2) (ret := (some .long)) rfl (by decide) (Nat.le_of_ble_eq_true rfl) ?_
  intro p e s m below meth c ls G hx hb hml hr hlocks hP hS hl
  have hl : lv_has ls 2 [(0, .ref (ad 0)), (1, .int (z))] := hl
  refine lv_iload_n hx hb dX3_committed_0 rfl (lv_at hl 1 rfl) ?_
  refine lv_if_lt (tgt := 12) hx hb dX3_committed_1 (by decide) (fun c_1 => ?_) (fun c_1 => ?_)
  · refine lv_ldc2 (v := (-1)) hx hb G.2.2.2.1 (G.2.2.1 (.constantLong RX3 53 (-1)) (by decide +kernel)) dX3_committed_12 ?_
    refine lv_goto (tgt := 24) hx hb dX3_committed_15 (by decide) ?_
    exact ct_lret hx hb hr hlocks (by rw [HM.committedA, if_pos c_1]) hP hS dX3_committed_24
  · refine lv_iload_n hx hb dX3_committed_4 rfl (lv_at hl 1 rfl) ?_
    refine lv_aload_n hx hb dX3_committed_5 rfl (lv_at hl 0 rfl) ?_
    refine hc_g_store G (in_X3_committed_X3) hP 4 (by decide) (by decide +kernel) (.int (nI (HM.cm (x)).length)) rfl rfl dX3_committed_6 ?_
    refine lv_icmp_lt (tgt := 18) hx hb dX3_committed_9 (by decide) (fun c_2 => ?_) (fun c_2 => ?_)
    · obtain ⟨j, hj, rfl⟩ : ∃ j, j < x.cm.length ∧ z = nI j := by
        rcases hs_rng z (b := x.cm.length) (by omega) with (q | q) | q
        · exact absurd q c_1
        · exact absurd q (Int32.not_le.mpr c_2)
        · exact q
      refine lv_aload_n hx hb dX3_committed_18 rfl (lv_at hl 0 rfl) ?_
      refine hc_g_store G (in_X3_committed_X3) hP 3 (by decide) (by decide +kernel) (.ref (ad 4)) rfl rfl dX3_committed_19 ?_
      refine lv_iload_n hx hb dX3_committed_22 rfl (lv_at hl 1 rfl) ?_
      refine va_lald hx hb G.2.2.2.2.1 hP 4 1 (hc_at_top (by decide)) rfl (hs_in (k := j) (n := 256) (nI_clamp (by omega)) (hs_inN (by omega) (by decide))) dX3_committed_23 ?_
      rw [show Int32.toNatClampNeg (nI j) = j from nI_clamp (by omega)]
      exact ct_lret hx hb hr hlocks (by rw [HM.committedA, if_neg c_1, if_neg (Int32.not_le.mpr c_2), nI_clamp (by omega)]; rfl) hP hS dX3_committed_24
    · refine lv_ldc2 (v := (-1)) hx hb G.2.2.2.1 (G.2.2.1 (.constantLong RX3 53 (-1)) (by decide +kernel)) dX3_committed_12 ?_
      refine lv_goto (tgt := 24) hx hb dX3_committed_15 (by decide) ?_
      exact ct_lret hx hb hr hlocks (by rw [HM.committedA, if_neg c_1, if_pos (Int32.not_lt.mp c_2)]) hP hS dX3_committed_24

theorem in_X1_takeIn_X1 : ∀ w ∈ u_ws RX1 TX1 2, w ∈ wsX1_takeIn := by decide +kernel
set_option maxHeartbeats 4000000 in
set_option maxRecDepth 100000 in
/-- Node.takeIn -/
theorem c_takeIn (l : Launch) (D : va_G) (cy : Nat → ClassId) (ad : Nat → Nat) (ho : hc_ok ad) (x : HM) {i : Nat} (hi : i < 4) (s0 : Int64) : Ct l yX1_takeIn wsX1_takeIn ({ frames := 1, cells := 0, slots := 0, locals := 21 }) D cy (hc_A ad) [.ref (ad (5 + i)), .long (s0)] (hc_mem ad cy (x)) none (hc_mem ad cy (x.tk i s0)) := by
  refine ct_of (cc := cX1_takeIn) (maxL := 3) (ret := none) rfl (by decide) (Nat.le_of_ble_eq_true rfl) ?_
  intro p e s m below meth c ls G hx hb hml hr hlocks hP hS hl
  have hl : lv_has ls 3 [(0, .ref (ad (5 + i))), (1, .long (s0))] := hl
  refine lv_aload_n hx hb dX1_takeIn_0 rfl (lv_at hl 0 rfl) ?_
  refine lv_aload_n hx hb dX1_takeIn_1 rfl (lv_at hl 0 rfl) ?_
  refine hc_g_node G (in_X1_takeIn_X1) hP (hi) 1 (by decide) (by decide +kernel) (.long (HM.ck (x) (i))) rfl rfl dX1_takeIn_2 ?_
  refine lv_lload_n hx hb dX1_takeIn_5 rfl (lv_at hl 1 rfl) ?_
  refine va_mmax_long hx hb (hml.trans hl.1.symm) G.2.2.2.1 (G.2.2.1 (.methodLink RX1 15 Lib.MathLoose.max_long.x) (by decide +kernel)) (G.2.2.1 (.static Lib.MathLoose.max_long.x) (by decide +kernel)) (G.2.2.1 (.initialized "java/lang/Math") (by decide +kernel)) (G.2.2.1 (.code Lib.MathLoose.max_long.x Lib.MathLoose.max_long.code 4 (some .long)) (by decide +kernel)) (Nat.le_of_ble_eq_true rfl) (Nat.le_of_ble_eq_true rfl) (Nat.zero_le _) (Nat.zero_le _) dX1_takeIn_6 ?_
  refine lv_lconst (v := 1) hx hb dX1_takeIn_9 (by decide) ?_
  refine lv_ladd hx hb dX1_takeIn_10 ?_
  refine lv_aload_n hx hb dX1_takeIn_11 rfl (lv_at hl 0 rfl) ?_
  refine hc_g_node G (in_X1_takeIn_X1) hP (hi) 0 (by decide) (by decide +kernel) (.int (HM.rd (x) (i))) rfl rfl dX1_takeIn_12 ?_
  refine lv_i2l (v := (Int32.toInt64 (HM.rd (x) (i)))) hx hb dX1_takeIn_15 rfl ?_
  refine lv_ldc2 (v := 1048576) hx hb G.2.2.2.1 (G.2.2.1 (.constantLong RX1 25 1048576) (by decide +kernel)) dX1_takeIn_16 ?_
  refine lv_lmul hx hb dX1_takeIn_19 ?_
  refine va_mmax_long hx hb (hml.trans hl.1.symm) G.2.2.2.1 (G.2.2.1 (.methodLink RX1 15 Lib.MathLoose.max_long.x) (by decide +kernel)) (G.2.2.1 (.static Lib.MathLoose.max_long.x) (by decide +kernel)) (G.2.2.1 (.initialized "java/lang/Math") (by decide +kernel)) (G.2.2.1 (.code Lib.MathLoose.max_long.x Lib.MathLoose.max_long.code 4 (some .long)) (by decide +kernel)) (Nat.le_of_ble_eq_true rfl) (Nat.le_of_ble_eq_true rfl) (Nat.zero_le _) (Nat.zero_le _) dX1_takeIn_20 ?_
  refine hc_p_node ho G (in_X1_takeIn_X1) hP hS (hi) 1 (by decide) (by decide +kernel) (.long ((if ((Int32.toInt64 (HM.rd (x) (i))) * 1048576) < ((if s0 < HM.ck (x) (i) then HM.ck (x) (i) else s0) + 1) then ((if s0 < HM.ck (x) (i) then HM.ck (x) (i) else s0) + 1) else ((Int32.toInt64 (HM.rd (x) (i))) * 1048576)))) rfl rfl (.long) (by decide +kernel) rfl rfl (Nat.le_of_ble_eq_true rfl) (HM.u_ck (x) (i) ((if ((Int32.toInt64 (HM.rd (x) (i))) * 1048576) < ((if s0 < HM.ck (x) (i) then HM.ck (x) (i) else s0) + 1) then ((if s0 < HM.ck (x) (i) then HM.ck (x) (i) else s0) + 1) else ((Int32.toInt64 (HM.rd (x) (i))) * 1048576)))) (hc_s_ck (v := (if ((Int32.toInt64 (HM.rd (x) (i))) * 1048576) < ((if s0 < HM.ck (x) (i) then HM.ck (x) (i) else s0) + 1) then ((if s0 < HM.ck (x) (i) then HM.ck (x) (i) else s0) + 1) else ((Int32.toInt64 (HM.rd (x) (i))) * 1048576))) (hi)) dX1_takeIn_23 (fun H locs hP hS => ?_)
  exact ct_vret hx hb hr hlocks rfl hP hS dX1_takeIn_26
theorem in_X1_haveEvent_X1 : ∀ w ∈ u_ws RX1 TX1 2, w ∈ wsX1_haveEvent := by decide +kernel
set_option maxHeartbeats 4000000 in
set_option maxRecDepth 100000 in
/-- Node.haveEvent -/
theorem c_haveEvent (l : Launch) (D : va_G) (cy : Nat → ClassId) (ad : Nat → Nat) (ho : hc_ok ad) (x : HM) {i : Nat} (hi : i < 4) : Ct l yX1_haveEvent wsX1_haveEvent ({ frames := 2, cells := 0, slots := 0, locals := 50 }) D cy (hc_A ad) [.ref (ad (5 + i))] (hc_mem ad cy (x)) none (hc_mem ad cy (x.ev i)) := by
  refine ct_of (cc := cX1_haveEvent) (maxL := 1) (ret := none) rfl (by decide) (Nat.le_of_ble_eq_true rfl) ?_
  intro p e s m below meth c ls G hx hb hml hr hlocks hP hS hl
  have hl : lv_has ls 1 [(0, .ref (ad (5 + i)))] := hl
  refine lv_aload_n hx hb dX1_haveEvent_0 rfl (lv_at hl 0 rfl) ?_
  refine lv_aload_n hx hb dX1_haveEvent_1 rfl (lv_at hl 0 rfl) ?_
  refine hc_g_node G (in_X1_haveEvent_X1) hP (hi) 1 (by decide) (by decide +kernel) (.long (HM.ck (x) (i))) rfl rfl dX1_haveEvent_2 ?_
  refine hs_callV (n := 1) (As := [.long (HM.ck (x) (i))]) (rest := []) G hml (c_takeIn l D cy ad ho (x) (hi) (HM.ck (x) (i))) gX1_haveEvent_X1_takeIn rfl rfl rfl (by decide +kernel) ⟨Nat.le_of_ble_eq_true rfl, Nat.le_of_ble_eq_true rfl⟩ (ci := 1) rfl rfl (hc_at_node (hi)) rfl hl.1 (Nat.le_of_ble_eq_true rfl) ⟨Nat.zero_le _, Nat.zero_le _⟩ hP hS (fun _ h => h) rfl dX1_haveEvent_5 (fun H locs hP hS _ _ => ?_)
  exact ct_vret hx hb hr hlocks rfl hP hS dX1_haveEvent_8
theorem in_X2_start_X2 : ∀ w ∈ u_ws RX2 TX2 9, w ∈ wsX2_start := by decide +kernel
theorem in_X2_start_X1 : ∀ w ∈ u_ws RX1 TX1 2, w ∈ wsX2_start := by decide +kernel
set_option maxHeartbeats 4000000 in
set_option maxRecDepth 100000 in
/-- Transaction.start -/
theorem c_start (l : Launch) (D : va_G) (cy : Nat → ClassId) (ad : Nat → Nat) (ho : hc_ok ad) (x : HM) {t : Nat} (ht : t < 8) {i : Nat} (hi : i < 4) (b : Nat) : Ct l yX2_start wsX2_start ({ frames := 0, cells := 0, slots := 0, locals := 0 }) D cy (hc_A ad) [.ref (ad (57 + t)), .ref (ad (5 + i)), .int (nI b)] (hc_mem ad cy (x)) none (hc_mem ad cy (x.beg t i b)) := by
  refine ct_of (cc := cX2_start) (maxL := 3) (ret := none) rfl (by decide) (Nat.le_of_ble_eq_true rfl) ?_
  intro p e s m below meth c ls G hx hb hml hr hlocks hP hS hl
  have hl : lv_has ls 3 [(0, .ref (ad (57 + t))), (1, .ref (ad (5 + i))), (2, .int (nI b))] := hl
  refine lv_aload_n hx hb dX2_start_0 rfl (lv_at hl 0 rfl) ?_
  refine lv_iconst (v := 1) hx hb dX2_start_1 (by decide) ?_
  refine hc_p_tx ho G (in_X2_start_X2) hP hS (ht) 0 (by decide) (by decide +kernel) (.int (1)) rfl rfl (.int) (by decide +kernel) rfl rfl (Nat.le_of_ble_eq_true rfl) (HM.u_ph (x) (t) (1)) (hc_s_ph (v := 1) (ht)) dX2_start_2 (fun H locs hP hS => ?_)
  refine lv_aload_n hx hb dX2_start_5 rfl (lv_at hl 0 rfl) ?_
  refine lv_aload_n hx hb dX2_start_6 rfl (lv_at hl 1 rfl) ?_
  refine hc_p_tx ho G (in_X2_start_X2) hP hS (ht) 1 (by decide) (by decide +kernel) (.ref (ad (5 + i))) rfl rfl (.object "HlcStore$Node") (by decide +kernel) rfl rfl (Nat.le_of_ble_eq_true rfl) (HM.u_gt (HM.u_ph (x) (t) (1)) (t) (i)) (hc_s_gt (v := i) (ht)) dX2_start_7 (fun H locs hP hS => ?_)
  refine lv_aload_n hx hb dX2_start_10 rfl (lv_at hl 0 rfl) ?_
  refine lv_aload_n hx hb dX2_start_11 rfl (lv_at hl 1 rfl) ?_
  refine hc_g_noden G (in_X2_start_X1) hP (hi) 0 (by decide) (by decide +kernel) (.int (HM.rd (HM.u_gt (HM.u_ph (x) (t) (1)) (t) (i)) (i))) rfl rfl dX2_start_12 ?_
  refine hc_p_tx ho G (in_X2_start_X2) hP hS (ht) 2 (by decide) (by decide +kernel) (.int (HM.rd (HM.u_gt (HM.u_ph (x) (t) (1)) (t) (i)) (i))) rfl rfl (.int) (by decide +kernel) rfl rfl (Nat.le_of_ble_eq_true rfl) (HM.u_bt (HM.u_gt (HM.u_ph (x) (t) (1)) (t) (i)) (t) (HM.rd (HM.u_gt (HM.u_ph (x) (t) (1)) (t) (i)) (i))) (hc_s_bt (v := HM.rd (HM.u_gt (HM.u_ph (x) (t) (1)) (t) (i)) (i)) (ht)) dX2_start_15 (fun H locs hP hS => ?_)
  refine lv_aload_n hx hb dX2_start_18 rfl (lv_at hl 0 rfl) ?_
  refine lv_iload_n hx hb dX2_start_19 rfl (lv_at hl 2 rfl) ?_
  refine hc_p_tx ho G (in_X2_start_X2) hP hS (ht) 3 (by decide) (by decide +kernel) (.int (nI b)) rfl rfl (.int) (by decide +kernel) rfl rfl (Nat.le_of_ble_eq_true rfl) (HM.u_bi (HM.u_bt (HM.u_gt (HM.u_ph (x) (t) (1)) (t) (i)) (t) (HM.rd (HM.u_gt (HM.u_ph (x) (t) (1)) (t) (i)) (i))) (t) (b)) (hc_s_bi (v := b) (ht)) dX2_start_20 (fun H locs hP hS => ?_)
  refine lv_aload_n hx hb dX2_start_23 rfl (lv_at hl 0 rfl) ?_
  refine lv_aload_n hx hb dX2_start_24 rfl (lv_at hl 1 rfl) ?_
  refine hc_g_noden G (in_X2_start_X1) hP (hi) 1 (by decide) (by decide +kernel) (.long (HM.ck (HM.u_bi (HM.u_bt (HM.u_gt (HM.u_ph (x) (t) (1)) (t) (i)) (t) (HM.rd (HM.u_gt (HM.u_ph (x) (t) (1)) (t) (i)) (i))) (t) (b)) (i))) rfl rfl dX2_start_25 ?_
  refine hc_p_tx ho G (in_X2_start_X2) hP hS (ht) 4 (by decide) (by decide +kernel) (.long (HM.ck (HM.u_bi (HM.u_bt (HM.u_gt (HM.u_ph (x) (t) (1)) (t) (i)) (t) (HM.rd (HM.u_gt (HM.u_ph (x) (t) (1)) (t) (i)) (i))) (t) (b)) (i))) rfl rfl (.long) (by decide +kernel) rfl rfl (Nat.le_of_ble_eq_true rfl) (HM.u_rs (HM.u_bi (HM.u_bt (HM.u_gt (HM.u_ph (x) (t) (1)) (t) (i)) (t) (HM.rd (HM.u_gt (HM.u_ph (x) (t) (1)) (t) (i)) (i))) (t) (b)) (t) (HM.ck (HM.u_bi (HM.u_bt (HM.u_gt (HM.u_ph (x) (t) (1)) (t) (i)) (t) (HM.rd (HM.u_gt (HM.u_ph (x) (t) (1)) (t) (i)) (i))) (t) (b)) (i))) (hc_s_rs (v := HM.ck (HM.u_bi (HM.u_bt (HM.u_gt (HM.u_ph (x) (t) (1)) (t) (i)) (t) (HM.rd (HM.u_gt (HM.u_ph (x) (t) (1)) (t) (i)) (i))) (t) (b)) (i)) (ht)) dX2_start_28 (fun H locs hP hS => ?_)
  refine lv_aload_n hx hb dX2_start_31 rfl (lv_at hl 0 rfl) ?_
  refine lv_aload_n hx hb dX2_start_32 rfl (lv_at hl 1 rfl) ?_
  refine hc_g_noden G (in_X2_start_X1) hP (hi) 1 (by decide) (by decide +kernel) (.long (HM.ck (HM.u_rs (HM.u_bi (HM.u_bt (HM.u_gt (HM.u_ph (x) (t) (1)) (t) (i)) (t) (HM.rd (HM.u_gt (HM.u_ph (x) (t) (1)) (t) (i)) (i))) (t) (b)) (t) (HM.ck (HM.u_bi (HM.u_bt (HM.u_gt (HM.u_ph (x) (t) (1)) (t) (i)) (t) (HM.rd (HM.u_gt (HM.u_ph (x) (t) (1)) (t) (i)) (i))) (t) (b)) (i))) (i))) rfl rfl dX2_start_33 ?_
  refine hc_p_tx ho G (in_X2_start_X2) hP hS (ht) 5 (by decide) (by decide +kernel) (.long (HM.ck (HM.u_rs (HM.u_bi (HM.u_bt (HM.u_gt (HM.u_ph (x) (t) (1)) (t) (i)) (t) (HM.rd (HM.u_gt (HM.u_ph (x) (t) (1)) (t) (i)) (i))) (t) (b)) (t) (HM.ck (HM.u_bi (HM.u_bt (HM.u_gt (HM.u_ph (x) (t) (1)) (t) (i)) (t) (HM.rd (HM.u_gt (HM.u_ph (x) (t) (1)) (t) (i)) (i))) (t) (b)) (i))) (i))) rfl rfl (.long) (by decide +kernel) rfl rfl (Nat.le_of_ble_eq_true rfl) (HM.u_ws (HM.u_rs (HM.u_bi (HM.u_bt (HM.u_gt (HM.u_ph (x) (t) (1)) (t) (i)) (t) (HM.rd (HM.u_gt (HM.u_ph (x) (t) (1)) (t) (i)) (i))) (t) (b)) (t) (HM.ck (HM.u_bi (HM.u_bt (HM.u_gt (HM.u_ph (x) (t) (1)) (t) (i)) (t) (HM.rd (HM.u_gt (HM.u_ph (x) (t) (1)) (t) (i)) (i))) (t) (b)) (i))) (t) (HM.ck (HM.u_rs (HM.u_bi (HM.u_bt (HM.u_gt (HM.u_ph (x) (t) (1)) (t) (i)) (t) (HM.rd (HM.u_gt (HM.u_ph (x) (t) (1)) (t) (i)) (i))) (t) (b)) (t) (HM.ck (HM.u_bi (HM.u_bt (HM.u_gt (HM.u_ph (x) (t) (1)) (t) (i)) (t) (HM.rd (HM.u_gt (HM.u_ph (x) (t) (1)) (t) (i)) (i))) (t) (b)) (i))) (i))) (hc_s_ws (v := HM.ck (HM.u_rs (HM.u_bi (HM.u_bt (HM.u_gt (HM.u_ph (x) (t) (1)) (t) (i)) (t) (HM.rd (HM.u_gt (HM.u_ph (x) (t) (1)) (t) (i)) (i))) (t) (b)) (t) (HM.ck (HM.u_bi (HM.u_bt (HM.u_gt (HM.u_ph (x) (t) (1)) (t) (i)) (t) (HM.rd (HM.u_gt (HM.u_ph (x) (t) (1)) (t) (i)) (i))) (t) (b)) (i))) (i)) (ht)) dX2_start_36 (fun H locs hP hS => ?_)
  refine lv_aload_n hx hb dX2_start_39 rfl (lv_at hl 0 rfl) ?_
  refine lv_aload_n hx hb dX2_start_40 rfl (lv_at hl 1 rfl) ?_
  refine hc_g_noden G (in_X2_start_X1) hP (hi) 1 (by decide) (by decide +kernel) (.long (HM.ck (HM.u_ws (HM.u_rs (HM.u_bi (HM.u_bt (HM.u_gt (HM.u_ph (x) (t) (1)) (t) (i)) (t) (HM.rd (HM.u_gt (HM.u_ph (x) (t) (1)) (t) (i)) (i))) (t) (b)) (t) (HM.ck (HM.u_bi (HM.u_bt (HM.u_gt (HM.u_ph (x) (t) (1)) (t) (i)) (t) (HM.rd (HM.u_gt (HM.u_ph (x) (t) (1)) (t) (i)) (i))) (t) (b)) (i))) (t) (HM.ck (HM.u_rs (HM.u_bi (HM.u_bt (HM.u_gt (HM.u_ph (x) (t) (1)) (t) (i)) (t) (HM.rd (HM.u_gt (HM.u_ph (x) (t) (1)) (t) (i)) (i))) (t) (b)) (t) (HM.ck (HM.u_bi (HM.u_bt (HM.u_gt (HM.u_ph (x) (t) (1)) (t) (i)) (t) (HM.rd (HM.u_gt (HM.u_ph (x) (t) (1)) (t) (i)) (i))) (t) (b)) (i))) (i))) (i))) rfl rfl dX2_start_41 ?_
  refine lv_ldc2 (v := 1048576) hx hb G.2.2.2.1 (G.2.2.1 (.constantLong RX2 40 1048576) (by decide +kernel)) dX2_start_44 ?_
  refine lv_ldiv hx hb dX2_start_47 (by decide) ?_
  refine lv_ldc2 (v := 10) hx hb G.2.2.2.1 (G.2.2.1 (.constantLong RX2 42 10) (by decide +kernel)) dX2_start_48 ?_
  refine lv_ladd hx hb dX2_start_51 ?_
  refine lv_ldc2 (v := 1048576) hx hb G.2.2.2.1 (G.2.2.1 (.constantLong RX2 40 1048576) (by decide +kernel)) dX2_start_52 ?_
  refine lv_lmul hx hb dX2_start_55 ?_
  refine lv_ldc2 (v := 1048575) hx hb G.2.2.2.1 (G.2.2.1 (.constantLong RX2 44 1048575) (by decide +kernel)) dX2_start_56 ?_
  refine lv_ladd hx hb dX2_start_59 ?_
  refine hc_p_tx ho G (in_X2_start_X2) hP hS (ht) 6 (by decide) (by decide +kernel) (.long (((((HM.ck (HM.u_ws (HM.u_rs (HM.u_bi (HM.u_bt (HM.u_gt (HM.u_ph (x) (t) (1)) (t) (i)) (t) (HM.rd (HM.u_gt (HM.u_ph (x) (t) (1)) (t) (i)) (i))) (t) (b)) (t) (HM.ck (HM.u_bi (HM.u_bt (HM.u_gt (HM.u_ph (x) (t) (1)) (t) (i)) (t) (HM.rd (HM.u_gt (HM.u_ph (x) (t) (1)) (t) (i)) (i))) (t) (b)) (i))) (t) (HM.ck (HM.u_rs (HM.u_bi (HM.u_bt (HM.u_gt (HM.u_ph (x) (t) (1)) (t) (i)) (t) (HM.rd (HM.u_gt (HM.u_ph (x) (t) (1)) (t) (i)) (i))) (t) (b)) (t) (HM.ck (HM.u_bi (HM.u_bt (HM.u_gt (HM.u_ph (x) (t) (1)) (t) (i)) (t) (HM.rd (HM.u_gt (HM.u_ph (x) (t) (1)) (t) (i)) (i))) (t) (b)) (i))) (i))) (i) / 1048576) + 10) * 1048576) + 1048575))) rfl rfl (.long) (by decide +kernel) rfl rfl (Nat.le_of_ble_eq_true rfl) (HM.u_lm (HM.u_ws (HM.u_rs (HM.u_bi (HM.u_bt (HM.u_gt (HM.u_ph (x) (t) (1)) (t) (i)) (t) (HM.rd (HM.u_gt (HM.u_ph (x) (t) (1)) (t) (i)) (i))) (t) (b)) (t) (HM.ck (HM.u_bi (HM.u_bt (HM.u_gt (HM.u_ph (x) (t) (1)) (t) (i)) (t) (HM.rd (HM.u_gt (HM.u_ph (x) (t) (1)) (t) (i)) (i))) (t) (b)) (i))) (t) (HM.ck (HM.u_rs (HM.u_bi (HM.u_bt (HM.u_gt (HM.u_ph (x) (t) (1)) (t) (i)) (t) (HM.rd (HM.u_gt (HM.u_ph (x) (t) (1)) (t) (i)) (i))) (t) (b)) (t) (HM.ck (HM.u_bi (HM.u_bt (HM.u_gt (HM.u_ph (x) (t) (1)) (t) (i)) (t) (HM.rd (HM.u_gt (HM.u_ph (x) (t) (1)) (t) (i)) (i))) (t) (b)) (i))) (i))) (t) (((((HM.ck (HM.u_ws (HM.u_rs (HM.u_bi (HM.u_bt (HM.u_gt (HM.u_ph (x) (t) (1)) (t) (i)) (t) (HM.rd (HM.u_gt (HM.u_ph (x) (t) (1)) (t) (i)) (i))) (t) (b)) (t) (HM.ck (HM.u_bi (HM.u_bt (HM.u_gt (HM.u_ph (x) (t) (1)) (t) (i)) (t) (HM.rd (HM.u_gt (HM.u_ph (x) (t) (1)) (t) (i)) (i))) (t) (b)) (i))) (t) (HM.ck (HM.u_rs (HM.u_bi (HM.u_bt (HM.u_gt (HM.u_ph (x) (t) (1)) (t) (i)) (t) (HM.rd (HM.u_gt (HM.u_ph (x) (t) (1)) (t) (i)) (i))) (t) (b)) (t) (HM.ck (HM.u_bi (HM.u_bt (HM.u_gt (HM.u_ph (x) (t) (1)) (t) (i)) (t) (HM.rd (HM.u_gt (HM.u_ph (x) (t) (1)) (t) (i)) (i))) (t) (b)) (i))) (i))) (i) / 1048576) + 10) * 1048576) + 1048575))) (hc_s_lm (v := ((((HM.ck (HM.u_ws (HM.u_rs (HM.u_bi (HM.u_bt (HM.u_gt (HM.u_ph (x) (t) (1)) (t) (i)) (t) (HM.rd (HM.u_gt (HM.u_ph (x) (t) (1)) (t) (i)) (i))) (t) (b)) (t) (HM.ck (HM.u_bi (HM.u_bt (HM.u_gt (HM.u_ph (x) (t) (1)) (t) (i)) (t) (HM.rd (HM.u_gt (HM.u_ph (x) (t) (1)) (t) (i)) (i))) (t) (b)) (i))) (t) (HM.ck (HM.u_rs (HM.u_bi (HM.u_bt (HM.u_gt (HM.u_ph (x) (t) (1)) (t) (i)) (t) (HM.rd (HM.u_gt (HM.u_ph (x) (t) (1)) (t) (i)) (i))) (t) (b)) (t) (HM.ck (HM.u_bi (HM.u_bt (HM.u_gt (HM.u_ph (x) (t) (1)) (t) (i)) (t) (HM.rd (HM.u_gt (HM.u_ph (x) (t) (1)) (t) (i)) (i))) (t) (b)) (i))) (i))) (i) / 1048576) + 10) * 1048576) + 1048575)) (ht)) dX2_start_60 (fun H locs hP hS => ?_)
  refine lv_aload_n hx hb dX2_start_63 rfl (lv_at hl 0 rfl) ?_
  refine lv_iconst (v := 0) hx hb dX2_start_64 (by decide) ?_
  refine hc_p_tx ho G (in_X2_start_X2) hP hS (ht) 7 (by decide) (by decide +kernel) (.int (0)) rfl rfl (.int) (by decide +kernel) rfl rfl (Nat.le_of_ble_eq_true rfl) (HM.u_se (HM.u_lm (HM.u_ws (HM.u_rs (HM.u_bi (HM.u_bt (HM.u_gt (HM.u_ph (x) (t) (1)) (t) (i)) (t) (HM.rd (HM.u_gt (HM.u_ph (x) (t) (1)) (t) (i)) (i))) (t) (b)) (t) (HM.ck (HM.u_bi (HM.u_bt (HM.u_gt (HM.u_ph (x) (t) (1)) (t) (i)) (t) (HM.rd (HM.u_gt (HM.u_ph (x) (t) (1)) (t) (i)) (i))) (t) (b)) (i))) (t) (HM.ck (HM.u_rs (HM.u_bi (HM.u_bt (HM.u_gt (HM.u_ph (x) (t) (1)) (t) (i)) (t) (HM.rd (HM.u_gt (HM.u_ph (x) (t) (1)) (t) (i)) (i))) (t) (b)) (t) (HM.ck (HM.u_bi (HM.u_bt (HM.u_gt (HM.u_ph (x) (t) (1)) (t) (i)) (t) (HM.rd (HM.u_gt (HM.u_ph (x) (t) (1)) (t) (i)) (i))) (t) (b)) (i))) (i))) (t) (((((HM.ck (HM.u_ws (HM.u_rs (HM.u_bi (HM.u_bt (HM.u_gt (HM.u_ph (x) (t) (1)) (t) (i)) (t) (HM.rd (HM.u_gt (HM.u_ph (x) (t) (1)) (t) (i)) (i))) (t) (b)) (t) (HM.ck (HM.u_bi (HM.u_bt (HM.u_gt (HM.u_ph (x) (t) (1)) (t) (i)) (t) (HM.rd (HM.u_gt (HM.u_ph (x) (t) (1)) (t) (i)) (i))) (t) (b)) (i))) (t) (HM.ck (HM.u_rs (HM.u_bi (HM.u_bt (HM.u_gt (HM.u_ph (x) (t) (1)) (t) (i)) (t) (HM.rd (HM.u_gt (HM.u_ph (x) (t) (1)) (t) (i)) (i))) (t) (b)) (t) (HM.ck (HM.u_bi (HM.u_bt (HM.u_gt (HM.u_ph (x) (t) (1)) (t) (i)) (t) (HM.rd (HM.u_gt (HM.u_ph (x) (t) (1)) (t) (i)) (i))) (t) (b)) (i))) (i))) (i) / 1048576) + 10) * 1048576) + 1048575))) (t) (fun _ => false)) (hc_s_se0 ht) dX2_start_65 (fun H locs hP hS => ?_)
  refine lv_aload_n hx hb dX2_start_68 rfl (lv_at hl 0 rfl) ?_
  refine lv_iconst (v := 0) hx hb dX2_start_69 (by decide) ?_
  refine hc_p_tx ho G (in_X2_start_X2) hP hS (ht) 8 (by decide) (by decide +kernel) (.int (0)) rfl rfl (.boolean) (by decide +kernel) (by decide) (by decide) (Nat.le_of_ble_eq_true rfl) (HM.u_hu (HM.u_se (HM.u_lm (HM.u_ws (HM.u_rs (HM.u_bi (HM.u_bt (HM.u_gt (HM.u_ph (x) (t) (1)) (t) (i)) (t) (HM.rd (HM.u_gt (HM.u_ph (x) (t) (1)) (t) (i)) (i))) (t) (b)) (t) (HM.ck (HM.u_bi (HM.u_bt (HM.u_gt (HM.u_ph (x) (t) (1)) (t) (i)) (t) (HM.rd (HM.u_gt (HM.u_ph (x) (t) (1)) (t) (i)) (i))) (t) (b)) (i))) (t) (HM.ck (HM.u_rs (HM.u_bi (HM.u_bt (HM.u_gt (HM.u_ph (x) (t) (1)) (t) (i)) (t) (HM.rd (HM.u_gt (HM.u_ph (x) (t) (1)) (t) (i)) (i))) (t) (b)) (t) (HM.ck (HM.u_bi (HM.u_bt (HM.u_gt (HM.u_ph (x) (t) (1)) (t) (i)) (t) (HM.rd (HM.u_gt (HM.u_ph (x) (t) (1)) (t) (i)) (i))) (t) (b)) (i))) (i))) (t) (((((HM.ck (HM.u_ws (HM.u_rs (HM.u_bi (HM.u_bt (HM.u_gt (HM.u_ph (x) (t) (1)) (t) (i)) (t) (HM.rd (HM.u_gt (HM.u_ph (x) (t) (1)) (t) (i)) (i))) (t) (b)) (t) (HM.ck (HM.u_bi (HM.u_bt (HM.u_gt (HM.u_ph (x) (t) (1)) (t) (i)) (t) (HM.rd (HM.u_gt (HM.u_ph (x) (t) (1)) (t) (i)) (i))) (t) (b)) (i))) (t) (HM.ck (HM.u_rs (HM.u_bi (HM.u_bt (HM.u_gt (HM.u_ph (x) (t) (1)) (t) (i)) (t) (HM.rd (HM.u_gt (HM.u_ph (x) (t) (1)) (t) (i)) (i))) (t) (b)) (t) (HM.ck (HM.u_bi (HM.u_bt (HM.u_gt (HM.u_ph (x) (t) (1)) (t) (i)) (t) (HM.rd (HM.u_gt (HM.u_ph (x) (t) (1)) (t) (i)) (i))) (t) (b)) (i))) (i))) (i) / 1048576) + 10) * 1048576) + 1048575))) (t) (fun _ => false)) (t) (0)) (hc_s_hu (v := 0) (ht)) dX2_start_70 (fun H locs hP hS => ?_)
  exact ct_vret hx hb hr hlocks rfl hP hS dX2_start_73
theorem in_X2_codeOfState_X2 : ∀ w ∈ u_ws RX2 TX2 9, w ∈ wsX2_codeOfState := by decide +kernel
set_option maxHeartbeats 4000000 in
set_option maxRecDepth 100000 in
/-- Transaction.codeOfState -/
theorem c_codeOfState (l : Launch) (D : va_G) (cy : Nat → ClassId) (ad : Nat → Nat) (ho : hc_ok ad) (x : HM) {t : Nat} (ht : t < 8) : Ct l yX2_codeOfState wsX2_codeOfState ({ frames := 0, cells := 0, slots := 0, locals := 0 }) D cy (hc_A ad) [.ref (ad (57 + t))] (hc_mem ad cy (x)) (some (.int (x.code t))) (hc_mem ad cy (x)) := by
  refine ct_of (cc := cX2_codeOfState) (maxL := 1) (ret := (some .int)) rfl (by decide) (Nat.le_of_ble_eq_true rfl) ?_
  intro p e s m below meth c ls G hx hb hml hr hlocks hP hS hl
  have hl : lv_has ls 1 [(0, .ref (ad (57 + t)))] := hl
  refine lv_aload_n hx hb dX2_codeOfState_0 rfl (lv_at hl 0 rfl) ?_
  refine hc_g_tx G (in_X2_codeOfState_X2) hP (ht) 0 (by decide) (by decide +kernel) (.int (HM.ph (x) (t))) rfl rfl dX2_codeOfState_1 ?_
  by_cases h1 : HM.ph x t = 1
  · refine lv_tableIn (off := 28) (tgt := 32) hx hb dX2_codeOfState_4 (by rw [h1]; decide) (by rw [h1]; decide) (by rw [h1]; rfl) (by decide) ?_
    refine lv_iconst (v := 0) hx hb dX2_codeOfState_32 (by decide) ?_
    exact ct_iret hx hb hr hlocks (by rw [HM.code, if_pos h1]) hP hS dX2_codeOfState_33
  by_cases h2 : HM.ph x t = 2
  · refine lv_tableIn (off := 30) (tgt := 34) hx hb dX2_codeOfState_4 (by rw [h2]; decide) (by rw [h2]; decide) (by rw [h2]; rfl) (by decide) ?_
    refine lv_bipush (v := (-8)) hx hb dX2_codeOfState_34 (by decide) ?_
    exact ct_iret hx hb hr hlocks (by rw [HM.code, if_neg h1, if_pos h2]) hP hS dX2_codeOfState_36
  by_cases h3 : HM.ph x t = 3
  · refine lv_tableIn (off := 33) (tgt := 37) hx hb dX2_codeOfState_4 (by rw [h3]; decide) (by rw [h3]; decide) (by rw [h3]; rfl) (by decide) ?_
    refine lv_bipush (v := (-6)) hx hb dX2_codeOfState_37 (by decide) ?_
    exact ct_iret hx hb hr hlocks (by rw [HM.code, if_neg h1, if_neg h2, if_pos h3]) hP hS dX2_codeOfState_39
  refine lv_tableOut (tgt := 40) hx hb dX2_codeOfState_4 (hs_out h1 h2 h3) (by decide) ?_
  refine lv_bipush (v := (-4)) hx hb dX2_codeOfState_40 (by decide) ?_
  exact ct_iret hx hb hr hlocks (by rw [HM.code, if_neg h1, if_neg h2, if_neg h3]) hP hS dX2_codeOfState_42
theorem in_X2_takeStoppingCode_X2 : ∀ w ∈ u_ws RX2 TX2 9, w ∈ wsX2_takeStoppingCode := by decide +kernel
set_option maxHeartbeats 4000000 in
set_option maxRecDepth 100000 in
/-- Transaction.takeStoppingCode -/
theorem c_takeStop (l : Launch) (D : va_G) (cy : Nat → ClassId) (ad : Nat → Nat) (ho : hc_ok ad) (x : HM) {t : Nat} (ht : t < 8) : Ct l yX2_takeStoppingCode wsX2_takeStoppingCode ({ frames := 1, cells := 0, slots := 0, locals := 20 }) D cy (hc_A ad) [.ref (ad (57 + t))] (hc_mem ad cy (x)) (some (.int (x.stc t))) (hc_mem ad cy (x.stp t)) := by
  refine ct_of (cc := cX2_takeStoppingCode) (maxL := 2) (ret := (some .int)) rfl (by decide) (Nat.le_of_ble_eq_true rfl) ?_
  intro p e s m below meth c ls G hx hb hml hr hlocks hP hS hl
  have hl : lv_has ls 2 [(0, .ref (ad (57 + t)))] := hl
  refine lv_aload_n hx hb dX2_takeStoppingCode_0 rfl (lv_at hl 0 rfl) ?_
  refine hs_callV (n := 0) (As := []) (rest := []) G hml (c_codeOfState l D cy ad ho (x) (ht)) gX2_takeStoppingCode_X2_codeOfState rfl rfl rfl (by decide +kernel) ⟨Nat.le_of_ble_eq_true rfl, Nat.le_of_ble_eq_true rfl⟩ (ci := 2) rfl rfl (hc_at_tx (ht)) rfl hl.1 (Nat.le_of_ble_eq_true rfl) ⟨Nat.zero_le _, Nat.zero_le _⟩ hP hS (fun _ h => h) rfl dX2_takeStoppingCode_1 (fun H locs hP hS _ _ => ?_)
  refine lv_istore_n (lv' := [(1, .int (HM.code (x) (t))), (0, .ref (ad (57 + t)))]) hx hb dX2_takeStoppingCode_4 rfl hl (by decide) rfl (fun ls hl => ?_)
  refine lv_iload_n hx hb dX2_takeStoppingCode_5 rfl (lv_at hl 0 rfl) ?_
  refine lv_if_ne (tgt := 23) hx hb dX2_takeStoppingCode_6 (by decide) (fun c_1 => ?_) (fun c_1 => ?_)
  · refine lv_iload_n hx hb dX2_takeStoppingCode_23 rfl (lv_at hl 0 rfl) ?_
    exact ct_iret hx hb hr hlocks (by rw [HM.stc, if_neg (fun q => c_1 q.1)]) (by rw [HM.stp, if_neg (fun q => c_1 q.1)]; exact hP) hS dX2_takeStoppingCode_24
  · refine lv_aload_n hx hb dX2_takeStoppingCode_9 rfl (lv_at hl 1 rfl) ?_
    refine hc_g_tx G (in_X2_takeStoppingCode_X2) hP (ht) 8 (by decide) (by decide +kernel) (.int (HM.hu (x) (t))) rfl rfl dX2_takeStoppingCode_10 ?_
    refine lv_if_eq (tgt := 23) hx hb dX2_takeStoppingCode_13 (by decide) (fun c_2 => ?_) (fun c_2 => ?_)
    · refine lv_iload_n hx hb dX2_takeStoppingCode_23 rfl (lv_at hl 0 rfl) ?_
      exact ct_iret hx hb hr hlocks (by rw [HM.stc, if_neg (fun q => q.2 c_2)]) (by rw [HM.stp, if_neg (fun q => q.2 c_2)]; exact hP) hS dX2_takeStoppingCode_24
    · refine lv_aload_n hx hb dX2_takeStoppingCode_16 rfl (lv_at hl 1 rfl) ?_
      refine lv_iconst (v := 0) hx hb dX2_takeStoppingCode_17 (by decide) ?_
      refine hc_p_tx ho G (in_X2_takeStoppingCode_X2) hP hS (ht) 8 (by decide) (by decide +kernel) (.int (0)) rfl rfl (.boolean) (by decide +kernel) (by decide) (by decide) (Nat.le_of_ble_eq_true rfl) (HM.u_hu (x) (t) (0)) (hc_s_hu (v := 0) (ht)) dX2_takeStoppingCode_18 (fun H locs hP hS => ?_)
      refine lv_iconst (v := 1) hx hb dX2_takeStoppingCode_21 (by decide) ?_
      exact ct_iret hx hb hr hlocks (by rw [HM.stc, if_pos ⟨c_1, c_2⟩]) (by rw [HM.stp, if_pos ⟨c_1, c_2⟩]; exact hP) hS dX2_takeStoppingCode_22
theorem in_X2_abortIfSilent_X2 : ∀ w ∈ u_ws RX2 TX2 9, w ∈ wsX2_abortIfSilent := by decide +kernel
theorem in_X2_abortIfSilent_X1 : ∀ w ∈ u_ws RX1 TX1 2, w ∈ wsX2_abortIfSilent := by decide +kernel
set_option maxHeartbeats 4000000 in
set_option maxRecDepth 100000 in
/-- Transaction.abortIfSilent -/
theorem c_silent (l : Launch) (D : va_G) (cy : Nat → ClassId) (ad : Nat → Nat) (ho : hc_ok ad) (x : HM) {t : Nat} (ht : t < 8) (hg : x.gt t < 4) : Ct l yX2_abortIfSilent wsX2_abortIfSilent ({ frames := 0, cells := 0, slots := 0, locals := 0 }) D cy (hc_A ad) [.ref (ad (57 + t))] (hc_mem ad cy (x)) none (hc_mem ad cy (x.sil t)) := by
  refine ct_of (cc := cX2_abortIfSilent) (maxL := 1) (ret := none) rfl (by decide) (Nat.le_of_ble_eq_true rfl) ?_
  intro p e s m below meth c ls G hx hb hml hr hlocks hP hS hl
  have hl : lv_has ls 1 [(0, .ref (ad (57 + t)))] := hl
  refine lv_aload_n hx hb dX2_abortIfSilent_0 rfl (lv_at hl 0 rfl) ?_
  refine hc_g_tx G (in_X2_abortIfSilent_X2) hP (ht) 0 (by decide) (by decide +kernel) (.int (HM.ph (x) (t))) rfl rfl dX2_abortIfSilent_1 ?_
  refine lv_iconst (v := 1) hx hb dX2_abortIfSilent_4 (by decide) ?_
  refine lv_icmp_ne (tgt := 30) hx hb dX2_abortIfSilent_5 (by decide) (fun c_1 => ?_) (fun c_1 => ?_)
  · exact ct_vret hx hb hr hlocks rfl (by rw [HM.sil, if_neg (fun q => c_1 q.1)]; exact hP) hS dX2_abortIfSilent_30
  · refine lv_aload_n hx hb dX2_abortIfSilent_8 rfl (lv_at hl 0 rfl) ?_
    refine hc_g_tx G (in_X2_abortIfSilent_X2) hP (ht) 1 (by decide) (by decide +kernel) (.ref (ad (5 + HM.gt (x) (t)))) rfl rfl dX2_abortIfSilent_9 ?_
    refine hc_g_noden G (in_X2_abortIfSilent_X1) hP (hg) 0 (by decide) (by decide +kernel) (.int (HM.rd (x) (HM.gt (x) (t)))) rfl rfl dX2_abortIfSilent_12 ?_
    refine lv_aload_n hx hb dX2_abortIfSilent_15 rfl (lv_at hl 0 rfl) ?_
    refine hc_g_tx G (in_X2_abortIfSilent_X2) hP (ht) 2 (by decide) (by decide +kernel) (.int (HM.bt (x) (t))) rfl rfl dX2_abortIfSilent_16 ?_
    refine lv_isub hx hb dX2_abortIfSilent_19 ?_
    refine lv_bipush (v := 40) hx hb dX2_abortIfSilent_20 (by decide) ?_
    refine lv_icmp_le (tgt := 30) hx hb dX2_abortIfSilent_22 (by decide) (fun c_2 => ?_) (fun c_2 => ?_)
    · exact ct_vret hx hb hr hlocks rfl (by rw [HM.sil, if_neg (fun q => Int32.not_le.mpr q.2 c_2)]; exact hP) hS dX2_abortIfSilent_30
    · refine lv_aload_n hx hb dX2_abortIfSilent_25 rfl (lv_at hl 0 rfl) ?_
      refine lv_iconst (v := 3) hx hb dX2_abortIfSilent_26 (by decide) ?_
      refine hc_p_tx ho G (in_X2_abortIfSilent_X2) hP hS (ht) 0 (by decide) (by decide +kernel) (.int (3)) rfl rfl (.int) (by decide +kernel) rfl rfl (Nat.le_of_ble_eq_true rfl) (HM.u_ph (x) (t) (3)) (hc_s_ph (v := 3) (ht)) dX2_abortIfSilent_27 (fun H locs hP hS => ?_)
      exact ct_vret hx hb hr hlocks rfl (by rw [HM.sil, if_pos ⟨c_1, Int32.not_le.mp c_2⟩]; exact hP) hS dX2_abortIfSilent_30
theorem in_X2_pushWriteStampAbove_X2 : ∀ w ∈ u_ws RX2 TX2 9, w ∈ wsX2_pushWriteStampAbove := by decide +kernel
set_option maxHeartbeats 4000000 in
set_option maxRecDepth 100000 in
/-- Transaction.pushWriteStampAbove -/
theorem c_push (l : Launch) (D : va_G) (cy : Nat → ClassId) (ad : Nat → Nat) (ho : hc_ok ad) (x : HM) {t : Nat} (ht : t < 8) (s0 : Int64) (hs0 : s0 < 9223372036854775807) : Ct l yX2_pushWriteStampAbove wsX2_pushWriteStampAbove ({ frames := 1, cells := 0, slots := 0, locals := 21 }) D cy (hc_A ad) [.ref (ad (57 + t)), .long (s0)] (hc_mem ad cy (x)) none (hc_mem ad cy (x.pu t s0)) := by
  refine ct_of (cc := cX2_pushWriteStampAbove) (maxL := 3) (ret := none) rfl (by decide) (Nat.le_of_ble_eq_true rfl) ?_
  intro p e s m below meth c ls G hx hb hml hr hlocks hP hS hl
  have hl : lv_has ls 3 [(0, .ref (ad (57 + t))), (1, .long (s0))] := hl
  refine lv_aload_n hx hb dX2_pushWriteStampAbove_0 rfl (lv_at hl 0 rfl) ?_
  refine lv_aload_n hx hb dX2_pushWriteStampAbove_1 rfl (lv_at hl 0 rfl) ?_
  refine hc_g_tx G (in_X2_pushWriteStampAbove_X2) hP (ht) 5 (by decide) (by decide +kernel) (.long (HM.ws (x) (t))) rfl rfl dX2_pushWriteStampAbove_2 ?_
  refine lv_lload_n hx hb dX2_pushWriteStampAbove_5 rfl (lv_at hl 1 rfl) ?_
  refine lv_lconst (v := 1) hx hb dX2_pushWriteStampAbove_6 (by decide) ?_
  refine lv_ladd hx hb dX2_pushWriteStampAbove_7 ?_
  refine va_mmax_long hx hb (hml.trans hl.1.symm) G.2.2.2.1 (G.2.2.1 (.methodLink RX2 60 Lib.MathLoose.max_long.x) (by decide +kernel)) (G.2.2.1 (.static Lib.MathLoose.max_long.x) (by decide +kernel)) (G.2.2.1 (.initialized "java/lang/Math") (by decide +kernel)) (G.2.2.1 (.code Lib.MathLoose.max_long.x Lib.MathLoose.max_long.code 4 (some .long)) (by decide +kernel)) (Nat.le_of_ble_eq_true rfl) (Nat.le_of_ble_eq_true rfl) (Nat.zero_le _) (Nat.zero_le _) dX2_pushWriteStampAbove_8 ?_
  refine hc_p_tx ho G (in_X2_pushWriteStampAbove_X2) hP hS (ht) 5 (by decide) (by decide +kernel) (.long ((if (s0 + 1) < HM.ws (x) (t) then HM.ws (x) (t) else (s0 + 1)))) rfl rfl (.long) (by decide +kernel) rfl rfl (Nat.le_of_ble_eq_true rfl) (HM.u_ws (x) (t) ((if (s0 + 1) < HM.ws (x) (t) then HM.ws (x) (t) else (s0 + 1)))) (hc_s_ws (v := (if (s0 + 1) < HM.ws (x) (t) then HM.ws (x) (t) else (s0 + 1))) (ht)) dX2_pushWriteStampAbove_11 (fun H locs hP hS => ?_)
  exact ct_vret hx hb hr hlocks rfl (by rw [HM.pu, ← hs_pu hs0]; exact hP) hS dX2_pushWriteStampAbove_14
theorem in_X2_moveTo_X2 : ∀ w ∈ u_ws RX2 TX2 9, w ∈ wsX2_moveTo := by decide +kernel
set_option maxHeartbeats 4000000 in
set_option maxRecDepth 100000 in
/-- Transaction.moveTo -/
theorem c_moveTo (l : Launch) (D : va_G) (cy : Nat → ClassId) (ad : Nat → Nat) (ho : hc_ok ad) (x : HM) {t : Nat} (ht : t < 8) (s0 : Int64) : Ct l yX2_moveTo wsX2_moveTo ({ frames := 1, cells := 0, slots := 0, locals := 21 }) D cy (hc_A ad) [.ref (ad (57 + t)), .long (s0)] (hc_mem ad cy (x)) none (hc_mem ad cy (x.mv t s0)) := by
  refine ct_of (cc := cX2_moveTo) (maxL := 3) (ret := none) rfl (by decide) (Nat.le_of_ble_eq_true rfl) ?_
  intro p e s m below meth c ls G hx hb hml hr hlocks hP hS hl
  have hl : lv_has ls 3 [(0, .ref (ad (57 + t))), (1, .long (s0))] := hl
  refine lv_aload_n hx hb dX2_moveTo_0 rfl (lv_at hl 0 rfl) ?_
  refine lv_iconst (v := 0) hx hb dX2_moveTo_1 (by decide) ?_
  refine hc_p_tx ho G (in_X2_moveTo_X2) hP hS (ht) 7 (by decide) (by decide +kernel) (.int (0)) rfl rfl (.int) (by decide +kernel) rfl rfl (Nat.le_of_ble_eq_true rfl) (HM.u_se (x) (t) (fun _ => false)) (hc_s_se0 ht) dX2_moveTo_2 (fun H locs hP hS => ?_)
  refine lv_aload_n hx hb dX2_moveTo_5 rfl (lv_at hl 0 rfl) ?_
  refine lv_aload_n hx hb dX2_moveTo_6 rfl (lv_at hl 0 rfl) ?_
  refine hc_g_tx G (in_X2_moveTo_X2) hP (ht) 5 (by decide) (by decide +kernel) (.long (HM.ws (HM.u_se (x) (t) (fun _ => false)) (t))) rfl rfl dX2_moveTo_7 ?_
  refine lv_lload_n hx hb dX2_moveTo_10 rfl (lv_at hl 1 rfl) ?_
  refine va_mmax_long hx hb (hml.trans hl.1.symm) G.2.2.2.1 (G.2.2.1 (.methodLink RX2 60 Lib.MathLoose.max_long.x) (by decide +kernel)) (G.2.2.1 (.static Lib.MathLoose.max_long.x) (by decide +kernel)) (G.2.2.1 (.initialized "java/lang/Math") (by decide +kernel)) (G.2.2.1 (.code Lib.MathLoose.max_long.x Lib.MathLoose.max_long.code 4 (some .long)) (by decide +kernel)) (Nat.le_of_ble_eq_true rfl) (Nat.le_of_ble_eq_true rfl) (Nat.zero_le _) (Nat.zero_le _) dX2_moveTo_11 ?_
  refine hc_p_tx ho G (in_X2_moveTo_X2) hP hS (ht) 5 (by decide) (by decide +kernel) (.long ((if s0 < HM.ws (HM.u_se (x) (t) (fun _ => false)) (t) then HM.ws (HM.u_se (x) (t) (fun _ => false)) (t) else s0))) rfl rfl (.long) (by decide +kernel) rfl rfl (Nat.le_of_ble_eq_true rfl) (HM.u_ws (HM.u_se (x) (t) (fun _ => false)) (t) ((if s0 < HM.ws (HM.u_se (x) (t) (fun _ => false)) (t) then HM.ws (HM.u_se (x) (t) (fun _ => false)) (t) else s0))) (hc_s_ws (v := (if s0 < HM.ws (HM.u_se (x) (t) (fun _ => false)) (t) then HM.ws (HM.u_se (x) (t) (fun _ => false)) (t) else s0)) (ht)) dX2_moveTo_14 (fun H locs hP hS => ?_)
  refine lv_aload_n hx hb dX2_moveTo_17 rfl (lv_at hl 0 rfl) ?_
  refine lv_aload_n hx hb dX2_moveTo_18 rfl (lv_at hl 0 rfl) ?_
  refine hc_g_tx G (in_X2_moveTo_X2) hP (ht) 5 (by decide) (by decide +kernel) (.long (HM.ws (HM.u_ws (HM.u_se (x) (t) (fun _ => false)) (t) ((if s0 < HM.ws (HM.u_se (x) (t) (fun _ => false)) (t) then HM.ws (HM.u_se (x) (t) (fun _ => false)) (t) else s0))) (t))) rfl rfl dX2_moveTo_19 ?_
  refine hc_p_tx ho G (in_X2_moveTo_X2) hP hS (ht) 4 (by decide) (by decide +kernel) (.long (HM.ws (HM.u_ws (HM.u_se (x) (t) (fun _ => false)) (t) ((if s0 < HM.ws (HM.u_se (x) (t) (fun _ => false)) (t) then HM.ws (HM.u_se (x) (t) (fun _ => false)) (t) else s0))) (t))) rfl rfl (.long) (by decide +kernel) rfl rfl (Nat.le_of_ble_eq_true rfl) (HM.u_rs (HM.u_ws (HM.u_se (x) (t) (fun _ => false)) (t) ((if s0 < HM.ws (HM.u_se (x) (t) (fun _ => false)) (t) then HM.ws (HM.u_se (x) (t) (fun _ => false)) (t) else s0))) (t) (HM.ws (HM.u_ws (HM.u_se (x) (t) (fun _ => false)) (t) ((if s0 < HM.ws (HM.u_se (x) (t) (fun _ => false)) (t) then HM.ws (HM.u_se (x) (t) (fun _ => false)) (t) else s0))) (t))) (hc_s_rs (v := HM.ws (HM.u_ws (HM.u_se (x) (t) (fun _ => false)) (t) ((if s0 < HM.ws (HM.u_se (x) (t) (fun _ => false)) (t) then HM.ws (HM.u_se (x) (t) (fun _ => false)) (t) else s0))) (t)) (ht)) dX2_moveTo_22 (fun H locs hP hS => ?_)
  refine lv_aload_n hx hb dX2_moveTo_25 rfl (lv_at hl 0 rfl) ?_
  refine lv_aload_n hx hb dX2_moveTo_26 rfl (lv_at hl 0 rfl) ?_
  refine hc_g_tx G (in_X2_moveTo_X2) hP (ht) 6 (by decide) (by decide +kernel) (.long (HM.lm (HM.u_rs (HM.u_ws (HM.u_se (x) (t) (fun _ => false)) (t) ((if s0 < HM.ws (HM.u_se (x) (t) (fun _ => false)) (t) then HM.ws (HM.u_se (x) (t) (fun _ => false)) (t) else s0))) (t) (HM.ws (HM.u_ws (HM.u_se (x) (t) (fun _ => false)) (t) ((if s0 < HM.ws (HM.u_se (x) (t) (fun _ => false)) (t) then HM.ws (HM.u_se (x) (t) (fun _ => false)) (t) else s0))) (t))) (t))) rfl rfl dX2_moveTo_27 ?_
  refine lv_aload_n hx hb dX2_moveTo_30 rfl (lv_at hl 0 rfl) ?_
  refine hc_g_tx G (in_X2_moveTo_X2) hP (ht) 4 (by decide) (by decide +kernel) (.long (HM.rs (HM.u_rs (HM.u_ws (HM.u_se (x) (t) (fun _ => false)) (t) ((if s0 < HM.ws (HM.u_se (x) (t) (fun _ => false)) (t) then HM.ws (HM.u_se (x) (t) (fun _ => false)) (t) else s0))) (t) (HM.ws (HM.u_ws (HM.u_se (x) (t) (fun _ => false)) (t) ((if s0 < HM.ws (HM.u_se (x) (t) (fun _ => false)) (t) then HM.ws (HM.u_se (x) (t) (fun _ => false)) (t) else s0))) (t))) (t))) rfl rfl dX2_moveTo_31 ?_
  refine va_mmax_long hx hb (hml.trans hl.1.symm) G.2.2.2.1 (G.2.2.1 (.methodLink RX2 60 Lib.MathLoose.max_long.x) (by decide +kernel)) (G.2.2.1 (.static Lib.MathLoose.max_long.x) (by decide +kernel)) (G.2.2.1 (.initialized "java/lang/Math") (by decide +kernel)) (G.2.2.1 (.code Lib.MathLoose.max_long.x Lib.MathLoose.max_long.code 4 (some .long)) (by decide +kernel)) (Nat.le_of_ble_eq_true rfl) (Nat.le_of_ble_eq_true rfl) (Nat.zero_le _) (Nat.zero_le _) dX2_moveTo_34 ?_
  refine hc_p_tx ho G (in_X2_moveTo_X2) hP hS (ht) 6 (by decide) (by decide +kernel) (.long ((if HM.rs (HM.u_rs (HM.u_ws (HM.u_se (x) (t) (fun _ => false)) (t) ((if s0 < HM.ws (HM.u_se (x) (t) (fun _ => false)) (t) then HM.ws (HM.u_se (x) (t) (fun _ => false)) (t) else s0))) (t) (HM.ws (HM.u_ws (HM.u_se (x) (t) (fun _ => false)) (t) ((if s0 < HM.ws (HM.u_se (x) (t) (fun _ => false)) (t) then HM.ws (HM.u_se (x) (t) (fun _ => false)) (t) else s0))) (t))) (t) < HM.lm (HM.u_rs (HM.u_ws (HM.u_se (x) (t) (fun _ => false)) (t) ((if s0 < HM.ws (HM.u_se (x) (t) (fun _ => false)) (t) then HM.ws (HM.u_se (x) (t) (fun _ => false)) (t) else s0))) (t) (HM.ws (HM.u_ws (HM.u_se (x) (t) (fun _ => false)) (t) ((if s0 < HM.ws (HM.u_se (x) (t) (fun _ => false)) (t) then HM.ws (HM.u_se (x) (t) (fun _ => false)) (t) else s0))) (t))) (t) then HM.lm (HM.u_rs (HM.u_ws (HM.u_se (x) (t) (fun _ => false)) (t) ((if s0 < HM.ws (HM.u_se (x) (t) (fun _ => false)) (t) then HM.ws (HM.u_se (x) (t) (fun _ => false)) (t) else s0))) (t) (HM.ws (HM.u_ws (HM.u_se (x) (t) (fun _ => false)) (t) ((if s0 < HM.ws (HM.u_se (x) (t) (fun _ => false)) (t) then HM.ws (HM.u_se (x) (t) (fun _ => false)) (t) else s0))) (t))) (t) else HM.rs (HM.u_rs (HM.u_ws (HM.u_se (x) (t) (fun _ => false)) (t) ((if s0 < HM.ws (HM.u_se (x) (t) (fun _ => false)) (t) then HM.ws (HM.u_se (x) (t) (fun _ => false)) (t) else s0))) (t) (HM.ws (HM.u_ws (HM.u_se (x) (t) (fun _ => false)) (t) ((if s0 < HM.ws (HM.u_se (x) (t) (fun _ => false)) (t) then HM.ws (HM.u_se (x) (t) (fun _ => false)) (t) else s0))) (t))) (t)))) rfl rfl (.long) (by decide +kernel) rfl rfl (Nat.le_of_ble_eq_true rfl) (HM.u_lm (HM.u_rs (HM.u_ws (HM.u_se (x) (t) (fun _ => false)) (t) ((if s0 < HM.ws (HM.u_se (x) (t) (fun _ => false)) (t) then HM.ws (HM.u_se (x) (t) (fun _ => false)) (t) else s0))) (t) (HM.ws (HM.u_ws (HM.u_se (x) (t) (fun _ => false)) (t) ((if s0 < HM.ws (HM.u_se (x) (t) (fun _ => false)) (t) then HM.ws (HM.u_se (x) (t) (fun _ => false)) (t) else s0))) (t))) (t) ((if HM.rs (HM.u_rs (HM.u_ws (HM.u_se (x) (t) (fun _ => false)) (t) ((if s0 < HM.ws (HM.u_se (x) (t) (fun _ => false)) (t) then HM.ws (HM.u_se (x) (t) (fun _ => false)) (t) else s0))) (t) (HM.ws (HM.u_ws (HM.u_se (x) (t) (fun _ => false)) (t) ((if s0 < HM.ws (HM.u_se (x) (t) (fun _ => false)) (t) then HM.ws (HM.u_se (x) (t) (fun _ => false)) (t) else s0))) (t))) (t) < HM.lm (HM.u_rs (HM.u_ws (HM.u_se (x) (t) (fun _ => false)) (t) ((if s0 < HM.ws (HM.u_se (x) (t) (fun _ => false)) (t) then HM.ws (HM.u_se (x) (t) (fun _ => false)) (t) else s0))) (t) (HM.ws (HM.u_ws (HM.u_se (x) (t) (fun _ => false)) (t) ((if s0 < HM.ws (HM.u_se (x) (t) (fun _ => false)) (t) then HM.ws (HM.u_se (x) (t) (fun _ => false)) (t) else s0))) (t))) (t) then HM.lm (HM.u_rs (HM.u_ws (HM.u_se (x) (t) (fun _ => false)) (t) ((if s0 < HM.ws (HM.u_se (x) (t) (fun _ => false)) (t) then HM.ws (HM.u_se (x) (t) (fun _ => false)) (t) else s0))) (t) (HM.ws (HM.u_ws (HM.u_se (x) (t) (fun _ => false)) (t) ((if s0 < HM.ws (HM.u_se (x) (t) (fun _ => false)) (t) then HM.ws (HM.u_se (x) (t) (fun _ => false)) (t) else s0))) (t))) (t) else HM.rs (HM.u_rs (HM.u_ws (HM.u_se (x) (t) (fun _ => false)) (t) ((if s0 < HM.ws (HM.u_se (x) (t) (fun _ => false)) (t) then HM.ws (HM.u_se (x) (t) (fun _ => false)) (t) else s0))) (t) (HM.ws (HM.u_ws (HM.u_se (x) (t) (fun _ => false)) (t) ((if s0 < HM.ws (HM.u_se (x) (t) (fun _ => false)) (t) then HM.ws (HM.u_se (x) (t) (fun _ => false)) (t) else s0))) (t))) (t)))) (hc_s_lm (v := (if HM.rs (HM.u_rs (HM.u_ws (HM.u_se (x) (t) (fun _ => false)) (t) ((if s0 < HM.ws (HM.u_se (x) (t) (fun _ => false)) (t) then HM.ws (HM.u_se (x) (t) (fun _ => false)) (t) else s0))) (t) (HM.ws (HM.u_ws (HM.u_se (x) (t) (fun _ => false)) (t) ((if s0 < HM.ws (HM.u_se (x) (t) (fun _ => false)) (t) then HM.ws (HM.u_se (x) (t) (fun _ => false)) (t) else s0))) (t))) (t) < HM.lm (HM.u_rs (HM.u_ws (HM.u_se (x) (t) (fun _ => false)) (t) ((if s0 < HM.ws (HM.u_se (x) (t) (fun _ => false)) (t) then HM.ws (HM.u_se (x) (t) (fun _ => false)) (t) else s0))) (t) (HM.ws (HM.u_ws (HM.u_se (x) (t) (fun _ => false)) (t) ((if s0 < HM.ws (HM.u_se (x) (t) (fun _ => false)) (t) then HM.ws (HM.u_se (x) (t) (fun _ => false)) (t) else s0))) (t))) (t) then HM.lm (HM.u_rs (HM.u_ws (HM.u_se (x) (t) (fun _ => false)) (t) ((if s0 < HM.ws (HM.u_se (x) (t) (fun _ => false)) (t) then HM.ws (HM.u_se (x) (t) (fun _ => false)) (t) else s0))) (t) (HM.ws (HM.u_ws (HM.u_se (x) (t) (fun _ => false)) (t) ((if s0 < HM.ws (HM.u_se (x) (t) (fun _ => false)) (t) then HM.ws (HM.u_se (x) (t) (fun _ => false)) (t) else s0))) (t))) (t) else HM.rs (HM.u_rs (HM.u_ws (HM.u_se (x) (t) (fun _ => false)) (t) ((if s0 < HM.ws (HM.u_se (x) (t) (fun _ => false)) (t) then HM.ws (HM.u_se (x) (t) (fun _ => false)) (t) else s0))) (t) (HM.ws (HM.u_ws (HM.u_se (x) (t) (fun _ => false)) (t) ((if s0 < HM.ws (HM.u_se (x) (t) (fun _ => false)) (t) then HM.ws (HM.u_se (x) (t) (fun _ => false)) (t) else s0))) (t))) (t))) (ht)) dX2_moveTo_37 (fun H locs hP hS => ?_)
  exact ct_vret hx hb hr hlocks rfl hP hS dX2_moveTo_40
theorem in_X0_raiseReadMark_X0 : ∀ w ∈ u_ws RX0 TX0 8, w ∈ wsX0_raiseReadMark := by decide +kernel
set_option maxHeartbeats 4000000 in
set_option maxRecDepth 100000 in
/-- Key.raiseReadMark -/
theorem c_raise (l : Launch) (D : va_G) (cy : Nat → ClassId) (ad : Nat → Nat) (ho : hc_ok ad) (x : HM) {k : Nat} (hk : k < 16) (s0 : Int64) : Ct l yX0_raiseReadMark wsX0_raiseReadMark ({ frames := 1, cells := 0, slots := 0, locals := 21 }) D cy (hc_A ad) [.ref (ad (9 + k)), .long (s0)] (hc_mem ad cy (x)) none (hc_mem ad cy (x.u_lr k (if s0 < x.lr k then x.lr k else s0))) := by
  refine ct_of (cc := cX0_raiseReadMark) (maxL := 3) (ret := none) rfl (by decide) (Nat.le_of_ble_eq_true rfl) ?_
  intro p e s m below meth c ls G hx hb hml hr hlocks hP hS hl
  have hl : lv_has ls 3 [(0, .ref (ad (9 + k))), (1, .long (s0))] := hl
  refine lv_aload_n hx hb dX0_raiseReadMark_0 rfl (lv_at hl 0 rfl) ?_
  refine lv_aload_n hx hb dX0_raiseReadMark_1 rfl (lv_at hl 0 rfl) ?_
  refine hc_g_key G (in_X0_raiseReadMark_X0) hP (hk) 5 (by decide) (by decide +kernel) (.long (HM.lr (x) (k))) rfl rfl dX0_raiseReadMark_2 ?_
  refine lv_lload_n hx hb dX0_raiseReadMark_5 rfl (lv_at hl 1 rfl) ?_
  refine va_mmax_long hx hb (hml.trans hl.1.symm) G.2.2.2.1 (G.2.2.1 (.methodLink RX0 31 Lib.MathLoose.max_long.x) (by decide +kernel)) (G.2.2.1 (.static Lib.MathLoose.max_long.x) (by decide +kernel)) (G.2.2.1 (.initialized "java/lang/Math") (by decide +kernel)) (G.2.2.1 (.code Lib.MathLoose.max_long.x Lib.MathLoose.max_long.code 4 (some .long)) (by decide +kernel)) (Nat.le_of_ble_eq_true rfl) (Nat.le_of_ble_eq_true rfl) (Nat.zero_le _) (Nat.zero_le _) dX0_raiseReadMark_6 ?_
  refine hc_p_key ho G (in_X0_raiseReadMark_X0) hP hS (hk) 5 (by decide) (by decide +kernel) (.long ((if s0 < HM.lr (x) (k) then HM.lr (x) (k) else s0))) rfl rfl (.long) (by decide +kernel) rfl rfl (Nat.le_of_ble_eq_true rfl) (HM.u_lr (x) (k) ((if s0 < HM.lr (x) (k) then HM.lr (x) (k) else s0))) (hc_s_lr (v := (if s0 < HM.lr (x) (k) then HM.lr (x) (k) else s0)) (hk)) dX0_raiseReadMark_9 (fun H locs hP hS => ?_)
  exact ct_vret hx hb hr hlocks rfl hP hS dX0_raiseReadMark_12

theorem in_X3_read_X3 : ∀ w ∈ u_ws RX3 TX3 6, w ∈ wsX3_read := by decide +kernel
theorem in_X3_read_X0 : ∀ w ∈ u_ws RX0 TX0 8, w ∈ wsX3_read := by decide +kernel
theorem in_X3_read_X1 : ∀ w ∈ u_ws RX1 TX1 2, w ∈ wsX3_read := by decide +kernel
theorem in_X3_read_X2 : ∀ w ∈ u_ws RX2 TX2 9, w ∈ wsX3_read := by decide +kernel
set_option maxHeartbeats 4000000 in
set_option maxRecDepth 100000 in
/-- c_read -/
theorem c_read (l : Launch) (D : va_G) (cy : Nat → ClassId) (ad : Nat → Nat) (ho : hc_ok ad) (x : HM) (B : Int) (hIn : x.In B) (hB : B + 200 < 4611686018427387904) (hbi : ∀ t, t < 8 → x.bi t < 2 ^ 31) (z w : Int32) : Ct l yX3_read wsX3_read ({ frames := 4, cells := 0, slots := 0, locals := 95 }) D cy (hc_A ad) [.ref (ad 0), .int (z), .int (w)] (hc_mem ad cy (x)) (some (.long (x.readA z w))) (hc_mem ad cy (x.readM z w)) := by
  rcases hs_rng z (b := 8) (by decide) with hz | ⟨t, ht, rfl⟩
  · rcases hs_rng w (b := 16) (by decide) with hw | ⟨k, hk, rfl⟩
    · refine ct_of (cc := cX3_read) (maxL := 8) (ret := (some .long)) rfl (by decide) (Nat.le_of_ble_eq_true rfl) ?_
      intro p e s m below meth c ls G hx hb hml hr hlocks hP hS hl
      have hl : lv_has ls 8 [(0, .ref (ad 0)), (1, .int (z)), (2, .int (w))] := hl
      refine lv_aload_n hx hb dX3_read_0 rfl (lv_at hl 0 rfl) ?_
      refine lv_iload_n hx hb dX3_read_1 rfl (lv_at hl 1 rfl) ?_
      refine hs_callV (n := 1) (As := [.int (z)]) (rest := []) G hml (c_transactionAt_no l D cy ad ho (x) (z) hz) gX3_read_X3_transactionAt rfl rfl rfl (by decide +kernel) ⟨Nat.le_of_ble_eq_true rfl, Nat.le_of_ble_eq_true rfl⟩ (ci := 3) rfl rfl (hc_at_top (j := 0) (by decide)) rfl hl.1 (Nat.le_of_ble_eq_true rfl) ⟨Nat.zero_le _, Nat.zero_le _⟩ hP hS (fun _ h => h) rfl dX3_read_2 (fun H locs hP hS _ _ => ?_)
      refine lv_astore_nN (lv' := [(3, .null), (0, .ref (ad 0)), (1, .int (z)), (2, .int (w))]) hx hb dX3_read_5 rfl hl (by decide) rfl (fun ls hl => ?_)
      refine lv_aload_n hx hb dX3_read_6 rfl (lv_at hl 1 rfl) ?_
      refine lv_iload_n hx hb dX3_read_7 rfl (lv_at hl 3 rfl) ?_
      refine hs_callV (n := 1) (As := [.int (w)]) (rest := []) G hml (c_keyAt_no l D cy ad ho (x) (w) hw) gX3_read_X3_keyAt rfl rfl rfl (by decide +kernel) ⟨Nat.le_of_ble_eq_true rfl, Nat.le_of_ble_eq_true rfl⟩ (ci := 3) rfl rfl (hc_at_top (j := 0) (by decide)) rfl hl.1 (Nat.le_of_ble_eq_true rfl) ⟨Nat.zero_le _, Nat.zero_le _⟩ hP hS (fun _ h => h) rfl dX3_read_8 (fun H locs hP hS _ _ => ?_)
      refine lv_astoreN (lv' := [(4, .null), (3, .null), (0, .ref (ad 0)), (1, .int (z)), (2, .int (w))]) hx hb dX3_read_11 hl (by decide) rfl (fun ls hl => ?_)
      refine lv_aload_nN hx hb dX3_read_13 rfl (lv_at hl 1 rfl) ?_
      refine lv_ifnullN (tgt := 22) hx hb dX3_read_14 (by decide) ?_
      refine lv_ldc2 (v := 4294967295) hx hb G.2.2.2.1 (G.2.2.1 (.constantLong RX3 78 4294967295) (by decide +kernel)) dX3_read_22 ?_
      exact ct_lret hx hb hr hlocks (by rw [HM.readA, hs_n_out hz]) (by rw [HM.readM, hs_n_out hz]; exact hP) hS dX3_read_25
    · refine ct_of (cc := cX3_read) (maxL := 8) (ret := (some .long)) rfl (by decide) (Nat.le_of_ble_eq_true rfl) ?_
      intro p e s m below meth c ls G hx hb hml hr hlocks hP hS hl
      have hl : lv_has ls 8 [(0, .ref (ad 0)), (1, .int (z)), (2, .int (nI k))] := hl
      refine lv_aload_n hx hb dX3_read_0 rfl (lv_at hl 0 rfl) ?_
      refine lv_iload_n hx hb dX3_read_1 rfl (lv_at hl 1 rfl) ?_
      refine hs_callV (n := 1) (As := [.int (z)]) (rest := []) G hml (c_transactionAt_no l D cy ad ho (x) (z) hz) gX3_read_X3_transactionAt rfl rfl rfl (by decide +kernel) ⟨Nat.le_of_ble_eq_true rfl, Nat.le_of_ble_eq_true rfl⟩ (ci := 3) rfl rfl (hc_at_top (j := 0) (by decide)) rfl hl.1 (Nat.le_of_ble_eq_true rfl) ⟨Nat.zero_le _, Nat.zero_le _⟩ hP hS (fun _ h => h) rfl dX3_read_2 (fun H locs hP hS _ _ => ?_)
      refine lv_astore_nN (lv' := [(3, .null), (0, .ref (ad 0)), (1, .int (z)), (2, .int (nI k))]) hx hb dX3_read_5 rfl hl (by decide) rfl (fun ls hl => ?_)
      refine lv_aload_n hx hb dX3_read_6 rfl (lv_at hl 1 rfl) ?_
      refine lv_iload_n hx hb dX3_read_7 rfl (lv_at hl 3 rfl) ?_
      refine hs_callV (n := 1) (As := [.int (nI k)]) (rest := []) G hml (c_keyAt l D cy ad ho (x) hk) gX3_read_X3_keyAt rfl rfl rfl (by decide +kernel) ⟨Nat.le_of_ble_eq_true rfl, Nat.le_of_ble_eq_true rfl⟩ (ci := 3) rfl rfl (hc_at_top (j := 0) (by decide)) rfl hl.1 (Nat.le_of_ble_eq_true rfl) ⟨Nat.zero_le _, Nat.zero_le _⟩ hP hS (fun _ h => h) rfl dX3_read_8 (fun H locs hP hS _ _ => ?_)
      refine lv_astore (lv' := [(4, .ref (ad (9 + k))), (3, .null), (0, .ref (ad 0)), (1, .int (z)), (2, .int (nI k))]) hx hb dX3_read_11 hl (by decide) rfl (fun ls hl => ?_)
      refine lv_aload_nN hx hb dX3_read_13 rfl (lv_at hl 1 rfl) ?_
      refine lv_ifnullN (tgt := 22) hx hb dX3_read_14 (by decide) ?_
      refine lv_ldc2 (v := 4294967295) hx hb G.2.2.2.1 (G.2.2.1 (.constantLong RX3 78 4294967295) (by decide +kernel)) dX3_read_22 ?_
      exact ct_lret hx hb hr hlocks (by rw [HM.readA, hs_n_out hz]) (by rw [HM.readM, hs_n_out hz]; exact hP) hS dX3_read_25
  · have eT := hs_n_in ht (show 8 < 2 ^ 31 by decide)
    rcases hs_rng w (b := 16) (by decide) with hw | ⟨k, hk, rfl⟩
    · refine ct_of (cc := cX3_read) (maxL := 8) (ret := (some .long)) rfl (by decide) (Nat.le_of_ble_eq_true rfl) ?_
      intro p e s m below meth c ls G hx hb hml hr hlocks hP hS hl
      have hl : lv_has ls 8 [(0, .ref (ad 0)), (1, .int (nI t)), (2, .int (w))] := hl
      refine lv_aload_n hx hb dX3_read_0 rfl (lv_at hl 0 rfl) ?_
      refine lv_iload_n hx hb dX3_read_1 rfl (lv_at hl 1 rfl) ?_
      refine hs_callV (n := 1) (As := [.int (nI t)]) (rest := []) G hml (c_transactionAt l D cy ad ho (x) ht) gX3_read_X3_transactionAt rfl rfl rfl (by decide +kernel) ⟨Nat.le_of_ble_eq_true rfl, Nat.le_of_ble_eq_true rfl⟩ (ci := 3) rfl rfl (hc_at_top (j := 0) (by decide)) rfl hl.1 (Nat.le_of_ble_eq_true rfl) ⟨Nat.zero_le _, Nat.zero_le _⟩ hP hS (fun _ h => h) rfl dX3_read_2 (fun H locs hP hS _ _ => ?_)
      refine lv_astore_n (lv' := [(3, .ref (ad (57 + t))), (0, .ref (ad 0)), (1, .int (nI t)), (2, .int (w))]) hx hb dX3_read_5 rfl hl (by decide) rfl (fun ls hl => ?_)
      refine lv_aload_n hx hb dX3_read_6 rfl (lv_at hl 1 rfl) ?_
      refine lv_iload_n hx hb dX3_read_7 rfl (lv_at hl 3 rfl) ?_
      refine hs_callV (n := 1) (As := [.int (w)]) (rest := []) G hml (c_keyAt_no l D cy ad ho (x) (w) hw) gX3_read_X3_keyAt rfl rfl rfl (by decide +kernel) ⟨Nat.le_of_ble_eq_true rfl, Nat.le_of_ble_eq_true rfl⟩ (ci := 3) rfl rfl (hc_at_top (j := 0) (by decide)) rfl hl.1 (Nat.le_of_ble_eq_true rfl) ⟨Nat.zero_le _, Nat.zero_le _⟩ hP hS (fun _ h => h) rfl dX3_read_8 (fun H locs hP hS _ _ => ?_)
      refine lv_astoreN (lv' := [(4, .null), (3, .ref (ad (57 + t))), (0, .ref (ad 0)), (1, .int (nI t)), (2, .int (w))]) hx hb dX3_read_11 hl (by decide) rfl (fun ls hl => ?_)
      refine lv_aload_n hx hb dX3_read_13 rfl (lv_at hl 1 rfl) ?_
      refine lv_ifnull hx hb dX3_read_14 ?_
      refine lv_aloadN hx hb dX3_read_17 (lv_at hl 0 rfl) ?_
      refine lv_ifnonnullN hx hb dX3_read_19 ?_
      refine lv_ldc2 (v := 4294967295) hx hb G.2.2.2.1 (G.2.2.1 (.constantLong RX3 78 4294967295) (by decide +kernel)) dX3_read_22 ?_
      exact ct_lret hx hb hr hlocks (by rw [HM.readA, eT, hs_n_out hw]) (by rw [HM.readM, eT, hs_n_out hw]; exact hP) hS dX3_read_25
    · have eK := hs_n_in hk (show 16 < 2 ^ 31 by decide)
      have eA : x.readA (nI t) (nI k) = if x.stc t = 0 then ((x.stp t).opn t k).rdA t k else 4294967296 + Int32.toInt64 (x.stc t) := by rw [HM.readA, eT, eK]
      have eM : x.readM (nI t) (nI k) = if x.stc t = 0 then (((x.stp t).opn t k).rdM t k).cls t k else x.stp t := by rw [HM.readM, eT, eK]
      have hI0 := hIn.stp t
      have hI1 := hI0.ev (by omega) (hI0.gt ht)
      have hI2 := hI0.opn (k := k) (by omega) ht
      have hI3 := hI2.rdM (by omega) ht hk
      have hbi2 : ∀ j, j < 8 → ((x.stp t).opn t k).bi j < 2 ^ 31 := fun j hj => by rw [show ((x.stp t).opn t k).bi = (x.stp t).bi from rfl, hs_stp_bi]; exact hbi j hj
      refine ct_of (cc := cX3_read) (maxL := 8) (ret := (some .long)) rfl (by decide) (Nat.le_of_ble_eq_true rfl) ?_
      intro p e s m below meth c ls G hx hb hml hr hlocks hP hS hl
      have hl : lv_has ls 8 [(0, .ref (ad 0)), (1, .int (nI t)), (2, .int (nI k))] := hl
      refine lv_aload_n hx hb dX3_read_0 rfl (lv_at hl 0 rfl) ?_
      refine lv_iload_n hx hb dX3_read_1 rfl (lv_at hl 1 rfl) ?_
      refine hs_callV (n := 1) (As := [.int (nI t)]) (rest := []) G hml (c_transactionAt l D cy ad ho (x) ht) gX3_read_X3_transactionAt rfl rfl rfl (by decide +kernel) ⟨Nat.le_of_ble_eq_true rfl, Nat.le_of_ble_eq_true rfl⟩ (ci := 3) rfl rfl (hc_at_top (j := 0) (by decide)) rfl hl.1 (Nat.le_of_ble_eq_true rfl) ⟨Nat.zero_le _, Nat.zero_le _⟩ hP hS (fun _ h => h) rfl dX3_read_2 (fun H locs hP hS _ _ => ?_)
      refine lv_astore_n (lv' := [(3, .ref (ad (57 + t))), (0, .ref (ad 0)), (1, .int (nI t)), (2, .int (nI k))]) hx hb dX3_read_5 rfl hl (by decide) rfl (fun ls hl => ?_)
      refine lv_aload_n hx hb dX3_read_6 rfl (lv_at hl 1 rfl) ?_
      refine lv_iload_n hx hb dX3_read_7 rfl (lv_at hl 3 rfl) ?_
      refine hs_callV (n := 1) (As := [.int (nI k)]) (rest := []) G hml (c_keyAt l D cy ad ho (x) hk) gX3_read_X3_keyAt rfl rfl rfl (by decide +kernel) ⟨Nat.le_of_ble_eq_true rfl, Nat.le_of_ble_eq_true rfl⟩ (ci := 3) rfl rfl (hc_at_top (j := 0) (by decide)) rfl hl.1 (Nat.le_of_ble_eq_true rfl) ⟨Nat.zero_le _, Nat.zero_le _⟩ hP hS (fun _ h => h) rfl dX3_read_8 (fun H locs hP hS _ _ => ?_)
      refine lv_astore (lv' := [(4, .ref (ad (9 + k))), (3, .ref (ad (57 + t))), (0, .ref (ad 0)), (1, .int (nI t)), (2, .int (nI k))]) hx hb dX3_read_11 hl (by decide) rfl (fun ls hl => ?_)
      refine lv_aload_n hx hb dX3_read_13 rfl (lv_at hl 1 rfl) ?_
      refine lv_ifnull hx hb dX3_read_14 ?_
      refine lv_aload hx hb dX3_read_17 (lv_at hl 0 rfl) ?_
      refine lv_ifnonnull (tgt := 26) hx hb dX3_read_19 (by decide) ?_
      refine lv_aload_n hx hb dX3_read_26 rfl (lv_at hl 1 rfl) ?_
      refine hs_callN (n := 0) (As := []) (rest := []) G hml (c_takeStop l D cy ad ho (x) (ht)) gX3_read_X2_takeStoppingCode_n80 rfl rfl rfl (by decide +kernel) (by decide +kernel) (by decide +kernel) (C := RX2) (by decide +kernel) (by decide +kernel) ⟨Nat.le_of_ble_eq_true rfl, Nat.le_of_ble_eq_true rfl⟩ (ci := 2) rfl rfl (hc_at_tx (ht)) rfl hl.1 (Nat.le_of_ble_eq_true rfl) ⟨Nat.zero_le _, Nat.zero_le _⟩ hP hS (fun _ h => h) rfl dX3_read_27 (fun H locs hP hS _ _ => ?_)
      refine lv_istore (lv' := [(5, .int (HM.stc (x) (t))), (4, .ref (ad (9 + k))), (3, .ref (ad (57 + t))), (0, .ref (ad 0)), (1, .int (nI t)), (2, .int (nI k))]) hx hb dX3_read_30 hl (by decide) rfl (fun ls hl => ?_)
      refine lv_iload hx hb dX3_read_32 (lv_at hl 0 rfl) ?_
      refine lv_if_eq (tgt := 45) hx hb dX3_read_34 (by decide) (fun c_1 => ?_) (fun c_1 => ?_)
      · refine lv_aload_n hx hb dX3_read_45 rfl (lv_at hl 2 rfl) ?_
        refine hc_g_txn G (in_X3_read_X2) hP (ht) 1 (by decide) (by decide +kernel) (.ref (ad (5 + HM.gt (HM.stp (x) (t)) (t)))) rfl rfl dX3_read_46 ?_
        refine hs_callN (n := 0) (As := []) (rest := []) G hml (c_haveEvent l D cy ad ho (HM.stp (x) (t)) ((hI0.gt ht))) gX3_read_X1_haveEvent_n50 rfl rfl rfl (by decide +kernel) (by decide +kernel) (by decide +kernel) (C := RX1) (by decide +kernel) (by decide +kernel) ⟨Nat.le_of_ble_eq_true rfl, Nat.le_of_ble_eq_true rfl⟩ (ci := 1) rfl rfl (hc_at_node ((hI0.gt ht))) rfl hl.1 (Nat.le_of_ble_eq_true rfl) ⟨Nat.zero_le _, Nat.zero_le _⟩ hP hS (fun _ h => h) rfl dX3_read_49 (fun H locs hP hS _ _ => ?_)
        have hP : va_P D vwCl (hc_mem ad cy (HM.ev (HM.stp x t) (HM.gt (HM.stp x t) t))) H := hP
        refine lv_aload hx hb dX3_read_52 (lv_at hl 1 rfl) ?_
        refine hc_g_keyn G (in_X3_read_X0) hP (hk) 1 (by decide) (by decide +kernel) (.ref (ad (5 + (k) % 4))) rfl rfl dX3_read_54 ?_
        refine lv_aload_n hx hb dX3_read_57 rfl (lv_at hl 2 rfl) ?_
        refine hc_g_txn G (in_X3_read_X2) hP (ht) 1 (by decide) (by decide +kernel) (.ref (ad (5 + HM.gt (HM.ev (HM.stp x t) (HM.gt (HM.stp x t) t)) (t)))) rfl rfl dX3_read_58 ?_
        refine hc_g_noden G (in_X3_read_X1) hP ((hI1.gt ht)) 1 (by decide) (by decide +kernel) (.long (HM.ck (HM.ev (HM.stp x t) (HM.gt (HM.stp x t) t)) (HM.gt (HM.ev (HM.stp x t) (HM.gt (HM.stp x t) t)) (t)))) rfl rfl dX3_read_61 ?_
        refine hs_callN (n := 1) (As := [.long (HM.ck (HM.ev (HM.stp x t) (HM.gt (HM.stp x t) t)) (HM.gt (HM.ev (HM.stp x t) (HM.gt (HM.stp x t) t)) (t)))]) (rest := []) G hml (c_takeIn l D cy ad ho (HM.ev (HM.stp x t) (HM.gt (HM.stp x t) t)) ((Nat.mod_lt _ (by decide))) (HM.ck (HM.ev (HM.stp x t) (HM.gt (HM.stp x t) t)) (HM.gt (HM.ev (HM.stp x t) (HM.gt (HM.stp x t) t)) (t)))) gX3_read_X1_takeIn_n92 rfl rfl rfl (by decide +kernel) (by decide +kernel) (by decide +kernel) (C := RX1) (by decide +kernel) (by decide +kernel) ⟨Nat.le_of_ble_eq_true rfl, Nat.le_of_ble_eq_true rfl⟩ (ci := 1) rfl rfl (hc_at_node ((Nat.mod_lt _ (by decide)))) rfl hl.1 (Nat.le_of_ble_eq_true rfl) ⟨Nat.zero_le _, Nat.zero_le _⟩ hP hS (fun _ h => h) rfl dX3_read_64 (fun H locs hP hS _ _ => ?_)
        have hP : va_P D vwCl (hc_mem ad cy (HM.opn (HM.stp x t) t k)) H := hP
        refine lv_aload_n hx hb dX3_read_67 rfl (lv_at hl 3 rfl) ?_
        refine lv_aload_n hx hb dX3_read_68 rfl (lv_at hl 2 rfl) ?_
        refine lv_aload hx hb dX3_read_69 (lv_at hl 1 rfl) ?_
        refine hs_callV (n := 2) (As := [.ref (ad (57 + t)), .ref (ad (9 + k))]) (rest := []) G hml (c_readAtOwner l D cy ad ho (HM.opn (HM.stp x t) t k) _ (hI2) (by omega) (ht) (hk)) gX3_read_X3_readAtOwner rfl rfl rfl (by decide +kernel) ⟨Nat.le_of_ble_eq_true rfl, Nat.le_of_ble_eq_true rfl⟩ (ci := 3) rfl rfl (hc_at_top (j := 0) (by decide)) rfl hl.1 (Nat.le_of_ble_eq_true rfl) ⟨Nat.zero_le _, Nat.zero_le _⟩ hP hS (fun _ h => h) rfl dX3_read_71 (fun H locs hP hS _ _ => ?_)
        refine lv_lstore (lv' := [(6, .long (HM.rdA (HM.opn (HM.stp x t) t k) (t) (k))), (5, .int (HM.stc (x) (t))), (4, .ref (ad (9 + k))), (3, .ref (ad (57 + t))), (0, .ref (ad 0)), (1, .int (nI t)), (2, .int (nI k))]) hx hb dX3_read_74 hl (by decide) rfl (fun ls hl => ?_)
        have hP : va_P D vwCl (hc_mem ad cy (HM.rdM (HM.opn (HM.stp x t) t k) t k)) H := hP
        refine lv_aload_n hx hb dX3_read_76 rfl (lv_at hl 3 rfl) ?_
        refine hc_g_txn G (in_X3_read_X2) hP (ht) 1 (by decide) (by decide +kernel) (.ref (ad (5 + HM.gt (HM.rdM (HM.opn (HM.stp x t) t k) t k) (t)))) rfl rfl dX3_read_77 ?_
        refine lv_aload hx hb dX3_read_80 (lv_at hl 2 rfl) ?_
        refine hc_g_keyn G (in_X3_read_X0) hP (hk) 1 (by decide) (by decide +kernel) (.ref (ad (5 + (k) % 4))) rfl rfl dX3_read_82 ?_
        refine hc_g_noden G (in_X3_read_X1) hP ((Nat.mod_lt _ (by decide))) 1 (by decide) (by decide +kernel) (.long (HM.ck (HM.rdM (HM.opn (HM.stp x t) t k) t k) ((k) % 4))) rfl rfl dX3_read_85 ?_
        refine hs_callN (n := 1) (As := [.long (HM.ck (HM.rdM (HM.opn (HM.stp x t) t k) t k) ((k) % 4))]) (rest := []) G hml (c_takeIn l D cy ad ho (HM.rdM (HM.opn (HM.stp x t) t k) t k) ((hI3.gt ht)) (HM.ck (HM.rdM (HM.opn (HM.stp x t) t k) t k) ((k) % 4))) gX3_read_X1_takeIn_n92 rfl rfl rfl (by decide +kernel) (by decide +kernel) (by decide +kernel) (C := RX1) (by decide +kernel) (by decide +kernel) ⟨Nat.le_of_ble_eq_true rfl, Nat.le_of_ble_eq_true rfl⟩ (ci := 1) rfl rfl (hc_at_node ((hI3.gt ht))) rfl hl.1 (Nat.le_of_ble_eq_true rfl) ⟨Nat.zero_le _, Nat.zero_le _⟩ hP hS (fun _ h => h) rfl dX3_read_88 (fun H locs hP hS _ _ => ?_)
        refine lv_lload hx hb dX3_read_91 (lv_at hl 0 rfl) ?_
        exact ct_lret hx hb hr hlocks (by rw [eA, if_pos c_1]) (by rw [eM, if_pos c_1]; exact hP) hS dX3_read_93
      · refine lv_ldc2 (v := 4294967296) hx hb G.2.2.2.1 (G.2.2.1 (.constantLong RX3 83 4294967296) (by decide +kernel)) dX3_read_37 ?_
        refine lv_iload hx hb dX3_read_40 (lv_at hl 0 rfl) ?_
        refine lv_i2l (v := (Int32.toInt64 (HM.stc (x) (t)))) hx hb dX3_read_42 rfl ?_
        refine lv_ladd hx hb dX3_read_43 ?_
        exact ct_lret hx hb hr hlocks (by rw [eA, if_neg c_1]) (by rw [eM, if_neg c_1]; exact hP) hS dX3_read_44
theorem in_X3_write_X3 : ∀ w ∈ u_ws RX3 TX3 6, w ∈ wsX3_write := by decide +kernel
theorem in_X3_write_X0 : ∀ w ∈ u_ws RX0 TX0 8, w ∈ wsX3_write := by decide +kernel
theorem in_X3_write_X1 : ∀ w ∈ u_ws RX1 TX1 2, w ∈ wsX3_write := by decide +kernel
theorem in_X3_write_X2 : ∀ w ∈ u_ws RX2 TX2 9, w ∈ wsX3_write := by decide +kernel
set_option maxHeartbeats 4000000 in
set_option maxRecDepth 100000 in
/-- c_write -/
theorem c_write (l : Launch) (D : va_G) (cy : Nat → ClassId) (ad : Nat → Nat) (ho : hc_ok ad) (x : HM) (B : Int) (hIn : x.In B) (hB : B + 200 < 4611686018427387904) (hbi : ∀ t, t < 8 → x.bi t < 2 ^ 31) (z w : Int32) (v : Int32) : Ct l yX3_write wsX3_write ({ frames := 4, cells := 0, slots := 0, locals := 94 }) D cy (hc_A ad) [.ref (ad 0), .int (z), .int (w), .int (v)] (hc_mem ad cy (x)) (some (.int (x.writeA z w))) (hc_mem ad cy (x.writeM z w v)) := by
  rcases hs_rng z (b := 8) (by decide) with hz | ⟨t, ht, rfl⟩
  · rcases hs_rng w (b := 16) (by decide) with hw | ⟨k, hk, rfl⟩
    · refine ct_of (cc := cX3_write) (maxL := 8) (ret := (some .int)) rfl (by decide) (Nat.le_of_ble_eq_true rfl) ?_
      intro p e s m below meth c ls G hx hb hml hr hlocks hP hS hl
      have hl : lv_has ls 8 [(0, .ref (ad 0)), (1, .int (z)), (2, .int (w)), (3, .int (v))] := hl
      refine lv_aload_n hx hb dX3_write_0 rfl (lv_at hl 0 rfl) ?_
      refine lv_iload_n hx hb dX3_write_1 rfl (lv_at hl 1 rfl) ?_
      refine hs_callV (n := 1) (As := [.int (z)]) (rest := []) G hml (c_transactionAt_no l D cy ad ho (x) (z) hz) gX3_write_X3_transactionAt rfl rfl rfl (by decide +kernel) ⟨Nat.le_of_ble_eq_true rfl, Nat.le_of_ble_eq_true rfl⟩ (ci := 3) rfl rfl (hc_at_top (j := 0) (by decide)) rfl hl.1 (Nat.le_of_ble_eq_true rfl) ⟨Nat.zero_le _, Nat.zero_le _⟩ hP hS (fun _ h => h) rfl dX3_write_2 (fun H locs hP hS _ _ => ?_)
      refine lv_astoreN (lv' := [(4, .null), (0, .ref (ad 0)), (1, .int (z)), (2, .int (w)), (3, .int (v))]) hx hb dX3_write_5 hl (by decide) rfl (fun ls hl => ?_)
      refine lv_aload_n hx hb dX3_write_7 rfl (lv_at hl 1 rfl) ?_
      refine lv_iload_n hx hb dX3_write_8 rfl (lv_at hl 3 rfl) ?_
      refine hs_callV (n := 1) (As := [.int (w)]) (rest := []) G hml (c_keyAt_no l D cy ad ho (x) (w) hw) gX3_write_X3_keyAt rfl rfl rfl (by decide +kernel) ⟨Nat.le_of_ble_eq_true rfl, Nat.le_of_ble_eq_true rfl⟩ (ci := 3) rfl rfl (hc_at_top (j := 0) (by decide)) rfl hl.1 (Nat.le_of_ble_eq_true rfl) ⟨Nat.zero_le _, Nat.zero_le _⟩ hP hS (fun _ h => h) rfl dX3_write_9 (fun H locs hP hS _ _ => ?_)
      refine lv_astoreN (lv' := [(5, .null), (4, .null), (0, .ref (ad 0)), (1, .int (z)), (2, .int (w)), (3, .int (v))]) hx hb dX3_write_12 hl (by decide) rfl (fun ls hl => ?_)
      refine lv_aloadN hx hb dX3_write_14 (lv_at hl 1 rfl) ?_
      refine lv_ifnullN (tgt := 24) hx hb dX3_write_16 (by decide) ?_
      refine lv_iconst (v := (-1)) hx hb dX3_write_24 (by decide) ?_
      exact ct_iret hx hb hr hlocks (by rw [HM.writeA, hs_n_out hz]) (by rw [HM.writeM, hs_n_out hz]; exact hP) hS dX3_write_25
    · refine ct_of (cc := cX3_write) (maxL := 8) (ret := (some .int)) rfl (by decide) (Nat.le_of_ble_eq_true rfl) ?_
      intro p e s m below meth c ls G hx hb hml hr hlocks hP hS hl
      have hl : lv_has ls 8 [(0, .ref (ad 0)), (1, .int (z)), (2, .int (nI k)), (3, .int (v))] := hl
      refine lv_aload_n hx hb dX3_write_0 rfl (lv_at hl 0 rfl) ?_
      refine lv_iload_n hx hb dX3_write_1 rfl (lv_at hl 1 rfl) ?_
      refine hs_callV (n := 1) (As := [.int (z)]) (rest := []) G hml (c_transactionAt_no l D cy ad ho (x) (z) hz) gX3_write_X3_transactionAt rfl rfl rfl (by decide +kernel) ⟨Nat.le_of_ble_eq_true rfl, Nat.le_of_ble_eq_true rfl⟩ (ci := 3) rfl rfl (hc_at_top (j := 0) (by decide)) rfl hl.1 (Nat.le_of_ble_eq_true rfl) ⟨Nat.zero_le _, Nat.zero_le _⟩ hP hS (fun _ h => h) rfl dX3_write_2 (fun H locs hP hS _ _ => ?_)
      refine lv_astoreN (lv' := [(4, .null), (0, .ref (ad 0)), (1, .int (z)), (2, .int (nI k)), (3, .int (v))]) hx hb dX3_write_5 hl (by decide) rfl (fun ls hl => ?_)
      refine lv_aload_n hx hb dX3_write_7 rfl (lv_at hl 1 rfl) ?_
      refine lv_iload_n hx hb dX3_write_8 rfl (lv_at hl 3 rfl) ?_
      refine hs_callV (n := 1) (As := [.int (nI k)]) (rest := []) G hml (c_keyAt l D cy ad ho (x) hk) gX3_write_X3_keyAt rfl rfl rfl (by decide +kernel) ⟨Nat.le_of_ble_eq_true rfl, Nat.le_of_ble_eq_true rfl⟩ (ci := 3) rfl rfl (hc_at_top (j := 0) (by decide)) rfl hl.1 (Nat.le_of_ble_eq_true rfl) ⟨Nat.zero_le _, Nat.zero_le _⟩ hP hS (fun _ h => h) rfl dX3_write_9 (fun H locs hP hS _ _ => ?_)
      refine lv_astore (lv' := [(5, .ref (ad (9 + k))), (4, .null), (0, .ref (ad 0)), (1, .int (z)), (2, .int (nI k)), (3, .int (v))]) hx hb dX3_write_12 hl (by decide) rfl (fun ls hl => ?_)
      refine lv_aloadN hx hb dX3_write_14 (lv_at hl 1 rfl) ?_
      refine lv_ifnullN (tgt := 24) hx hb dX3_write_16 (by decide) ?_
      refine lv_iconst (v := (-1)) hx hb dX3_write_24 (by decide) ?_
      exact ct_iret hx hb hr hlocks (by rw [HM.writeA, hs_n_out hz]) (by rw [HM.writeM, hs_n_out hz]; exact hP) hS dX3_write_25
  · have eT := hs_n_in ht (show 8 < 2 ^ 31 by decide)
    rcases hs_rng w (b := 16) (by decide) with hw | ⟨k, hk, rfl⟩
    · refine ct_of (cc := cX3_write) (maxL := 8) (ret := (some .int)) rfl (by decide) (Nat.le_of_ble_eq_true rfl) ?_
      intro p e s m below meth c ls G hx hb hml hr hlocks hP hS hl
      have hl : lv_has ls 8 [(0, .ref (ad 0)), (1, .int (nI t)), (2, .int (w)), (3, .int (v))] := hl
      refine lv_aload_n hx hb dX3_write_0 rfl (lv_at hl 0 rfl) ?_
      refine lv_iload_n hx hb dX3_write_1 rfl (lv_at hl 1 rfl) ?_
      refine hs_callV (n := 1) (As := [.int (nI t)]) (rest := []) G hml (c_transactionAt l D cy ad ho (x) ht) gX3_write_X3_transactionAt rfl rfl rfl (by decide +kernel) ⟨Nat.le_of_ble_eq_true rfl, Nat.le_of_ble_eq_true rfl⟩ (ci := 3) rfl rfl (hc_at_top (j := 0) (by decide)) rfl hl.1 (Nat.le_of_ble_eq_true rfl) ⟨Nat.zero_le _, Nat.zero_le _⟩ hP hS (fun _ h => h) rfl dX3_write_2 (fun H locs hP hS _ _ => ?_)
      refine lv_astore (lv' := [(4, .ref (ad (57 + t))), (0, .ref (ad 0)), (1, .int (nI t)), (2, .int (w)), (3, .int (v))]) hx hb dX3_write_5 hl (by decide) rfl (fun ls hl => ?_)
      refine lv_aload_n hx hb dX3_write_7 rfl (lv_at hl 1 rfl) ?_
      refine lv_iload_n hx hb dX3_write_8 rfl (lv_at hl 3 rfl) ?_
      refine hs_callV (n := 1) (As := [.int (w)]) (rest := []) G hml (c_keyAt_no l D cy ad ho (x) (w) hw) gX3_write_X3_keyAt rfl rfl rfl (by decide +kernel) ⟨Nat.le_of_ble_eq_true rfl, Nat.le_of_ble_eq_true rfl⟩ (ci := 3) rfl rfl (hc_at_top (j := 0) (by decide)) rfl hl.1 (Nat.le_of_ble_eq_true rfl) ⟨Nat.zero_le _, Nat.zero_le _⟩ hP hS (fun _ h => h) rfl dX3_write_9 (fun H locs hP hS _ _ => ?_)
      refine lv_astoreN (lv' := [(5, .null), (4, .ref (ad (57 + t))), (0, .ref (ad 0)), (1, .int (nI t)), (2, .int (w)), (3, .int (v))]) hx hb dX3_write_12 hl (by decide) rfl (fun ls hl => ?_)
      refine lv_aload hx hb dX3_write_14 (lv_at hl 1 rfl) ?_
      refine lv_ifnull hx hb dX3_write_16 ?_
      refine lv_aloadN hx hb dX3_write_19 (lv_at hl 0 rfl) ?_
      refine lv_ifnonnullN hx hb dX3_write_21 ?_
      refine lv_iconst (v := (-1)) hx hb dX3_write_24 (by decide) ?_
      exact ct_iret hx hb hr hlocks (by rw [HM.writeA, eT, hs_n_out hw]) (by rw [HM.writeM, eT, hs_n_out hw]; exact hP) hS dX3_write_25
    · have eK := hs_n_in hk (show 16 < 2 ^ 31 by decide)
      have eA : x.writeA (nI t) (nI k) = if x.stc t = 0 then ((x.stp t).opn t k).wrA t k else x.stc t := by rw [HM.writeA, eT, eK]
      have eM : x.writeM (nI t) (nI k) v = if x.stc t = 0 then (((x.stp t).opn t k).wrM t k v).cls t k else x.stp t := by rw [HM.writeM, eT, eK]
      have hI0 := hIn.stp t
      have hI1 := hI0.ev (by omega) (hI0.gt ht)
      have hI2 := hI0.opn (k := k) (by omega) ht
      have hI3 := hI2.wrM (by omega) ht hk v
      have hbi2 : ∀ j, j < 8 → ((x.stp t).opn t k).bi j < 2 ^ 31 := fun j hj => by rw [show ((x.stp t).opn t k).bi = (x.stp t).bi from rfl, hs_stp_bi]; exact hbi j hj
      refine ct_of (cc := cX3_write) (maxL := 8) (ret := (some .int)) rfl (by decide) (Nat.le_of_ble_eq_true rfl) ?_
      intro p e s m below meth c ls G hx hb hml hr hlocks hP hS hl
      have hl : lv_has ls 8 [(0, .ref (ad 0)), (1, .int (nI t)), (2, .int (nI k)), (3, .int (v))] := hl
      refine lv_aload_n hx hb dX3_write_0 rfl (lv_at hl 0 rfl) ?_
      refine lv_iload_n hx hb dX3_write_1 rfl (lv_at hl 1 rfl) ?_
      refine hs_callV (n := 1) (As := [.int (nI t)]) (rest := []) G hml (c_transactionAt l D cy ad ho (x) ht) gX3_write_X3_transactionAt rfl rfl rfl (by decide +kernel) ⟨Nat.le_of_ble_eq_true rfl, Nat.le_of_ble_eq_true rfl⟩ (ci := 3) rfl rfl (hc_at_top (j := 0) (by decide)) rfl hl.1 (Nat.le_of_ble_eq_true rfl) ⟨Nat.zero_le _, Nat.zero_le _⟩ hP hS (fun _ h => h) rfl dX3_write_2 (fun H locs hP hS _ _ => ?_)
      refine lv_astore (lv' := [(4, .ref (ad (57 + t))), (0, .ref (ad 0)), (1, .int (nI t)), (2, .int (nI k)), (3, .int (v))]) hx hb dX3_write_5 hl (by decide) rfl (fun ls hl => ?_)
      refine lv_aload_n hx hb dX3_write_7 rfl (lv_at hl 1 rfl) ?_
      refine lv_iload_n hx hb dX3_write_8 rfl (lv_at hl 3 rfl) ?_
      refine hs_callV (n := 1) (As := [.int (nI k)]) (rest := []) G hml (c_keyAt l D cy ad ho (x) hk) gX3_write_X3_keyAt rfl rfl rfl (by decide +kernel) ⟨Nat.le_of_ble_eq_true rfl, Nat.le_of_ble_eq_true rfl⟩ (ci := 3) rfl rfl (hc_at_top (j := 0) (by decide)) rfl hl.1 (Nat.le_of_ble_eq_true rfl) ⟨Nat.zero_le _, Nat.zero_le _⟩ hP hS (fun _ h => h) rfl dX3_write_9 (fun H locs hP hS _ _ => ?_)
      refine lv_astore (lv' := [(5, .ref (ad (9 + k))), (4, .ref (ad (57 + t))), (0, .ref (ad 0)), (1, .int (nI t)), (2, .int (nI k)), (3, .int (v))]) hx hb dX3_write_12 hl (by decide) rfl (fun ls hl => ?_)
      refine lv_aload hx hb dX3_write_14 (lv_at hl 1 rfl) ?_
      refine lv_ifnull hx hb dX3_write_16 ?_
      refine lv_aload hx hb dX3_write_19 (lv_at hl 0 rfl) ?_
      refine lv_ifnonnull (tgt := 26) hx hb dX3_write_21 (by decide) ?_
      refine lv_aload hx hb dX3_write_26 (lv_at hl 1 rfl) ?_
      refine hs_callN (n := 0) (As := []) (rest := []) G hml (c_takeStop l D cy ad ho (x) (ht)) gX3_write_X2_takeStoppingCode_n80 rfl rfl rfl (by decide +kernel) (by decide +kernel) (by decide +kernel) (C := RX2) (by decide +kernel) (by decide +kernel) ⟨Nat.le_of_ble_eq_true rfl, Nat.le_of_ble_eq_true rfl⟩ (ci := 2) rfl rfl (hc_at_tx (ht)) rfl hl.1 (Nat.le_of_ble_eq_true rfl) ⟨Nat.zero_le _, Nat.zero_le _⟩ hP hS (fun _ h => h) rfl dX3_write_28 (fun H locs hP hS _ _ => ?_)
      refine lv_istore (lv' := [(6, .int (HM.stc (x) (t))), (5, .ref (ad (9 + k))), (4, .ref (ad (57 + t))), (0, .ref (ad 0)), (1, .int (nI t)), (2, .int (nI k)), (3, .int (v))]) hx hb dX3_write_31 hl (by decide) rfl (fun ls hl => ?_)
      refine lv_iload hx hb dX3_write_33 (lv_at hl 0 rfl) ?_
      refine lv_if_eq (tgt := 41) hx hb dX3_write_35 (by decide) (fun c_1 => ?_) (fun c_1 => ?_)
      · refine lv_aload hx hb dX3_write_41 (lv_at hl 2 rfl) ?_
        refine hc_g_txn G (in_X3_write_X2) hP (ht) 1 (by decide) (by decide +kernel) (.ref (ad (5 + HM.gt (HM.stp (x) (t)) (t)))) rfl rfl dX3_write_43 ?_
        refine hs_callN (n := 0) (As := []) (rest := []) G hml (c_haveEvent l D cy ad ho (HM.stp (x) (t)) ((hI0.gt ht))) gX3_write_X1_haveEvent_n50 rfl rfl rfl (by decide +kernel) (by decide +kernel) (by decide +kernel) (C := RX1) (by decide +kernel) (by decide +kernel) ⟨Nat.le_of_ble_eq_true rfl, Nat.le_of_ble_eq_true rfl⟩ (ci := 1) rfl rfl (hc_at_node ((hI0.gt ht))) rfl hl.1 (Nat.le_of_ble_eq_true rfl) ⟨Nat.zero_le _, Nat.zero_le _⟩ hP hS (fun _ h => h) rfl dX3_write_46 (fun H locs hP hS _ _ => ?_)
        have hP : va_P D vwCl (hc_mem ad cy (HM.ev (HM.stp x t) (HM.gt (HM.stp x t) t))) H := hP
        refine lv_aload hx hb dX3_write_49 (lv_at hl 1 rfl) ?_
        refine hc_g_keyn G (in_X3_write_X0) hP (hk) 1 (by decide) (by decide +kernel) (.ref (ad (5 + (k) % 4))) rfl rfl dX3_write_51 ?_
        refine lv_aload hx hb dX3_write_54 (lv_at hl 2 rfl) ?_
        refine hc_g_txn G (in_X3_write_X2) hP (ht) 1 (by decide) (by decide +kernel) (.ref (ad (5 + HM.gt (HM.ev (HM.stp x t) (HM.gt (HM.stp x t) t)) (t)))) rfl rfl dX3_write_56 ?_
        refine hc_g_noden G (in_X3_write_X1) hP ((hI1.gt ht)) 1 (by decide) (by decide +kernel) (.long (HM.ck (HM.ev (HM.stp x t) (HM.gt (HM.stp x t) t)) (HM.gt (HM.ev (HM.stp x t) (HM.gt (HM.stp x t) t)) (t)))) rfl rfl dX3_write_59 ?_
        refine hs_callN (n := 1) (As := [.long (HM.ck (HM.ev (HM.stp x t) (HM.gt (HM.stp x t) t)) (HM.gt (HM.ev (HM.stp x t) (HM.gt (HM.stp x t) t)) (t)))]) (rest := []) G hml (c_takeIn l D cy ad ho (HM.ev (HM.stp x t) (HM.gt (HM.stp x t) t)) ((Nat.mod_lt _ (by decide))) (HM.ck (HM.ev (HM.stp x t) (HM.gt (HM.stp x t) t)) (HM.gt (HM.ev (HM.stp x t) (HM.gt (HM.stp x t) t)) (t)))) gX3_write_X1_takeIn_n92 rfl rfl rfl (by decide +kernel) (by decide +kernel) (by decide +kernel) (C := RX1) (by decide +kernel) (by decide +kernel) ⟨Nat.le_of_ble_eq_true rfl, Nat.le_of_ble_eq_true rfl⟩ (ci := 1) rfl rfl (hc_at_node ((Nat.mod_lt _ (by decide)))) rfl hl.1 (Nat.le_of_ble_eq_true rfl) ⟨Nat.zero_le _, Nat.zero_le _⟩ hP hS (fun _ h => h) rfl dX3_write_62 (fun H locs hP hS _ _ => ?_)
        have hP : va_P D vwCl (hc_mem ad cy (HM.opn (HM.stp x t) t k)) H := hP
        refine lv_aload_n hx hb dX3_write_65 rfl (lv_at hl 3 rfl) ?_
        refine lv_aload hx hb dX3_write_66 (lv_at hl 2 rfl) ?_
        refine lv_aload hx hb dX3_write_68 (lv_at hl 1 rfl) ?_
        refine lv_iload_n hx hb dX3_write_70 rfl (lv_at hl 6 rfl) ?_
        refine hs_callV (n := 3) (As := [.ref (ad (57 + t)), .ref (ad (9 + k)), .int (v)]) (rest := []) G hml (c_writeAtOwner l D cy ad ho (HM.opn (HM.stp x t) t k) _ (hI2) (by omega) (hbi2) (ht) (hk) (v)) gX3_write_X3_writeAtOwner rfl rfl rfl (by decide +kernel) ⟨Nat.le_of_ble_eq_true rfl, Nat.le_of_ble_eq_true rfl⟩ (ci := 3) rfl rfl (hc_at_top (j := 0) (by decide)) rfl hl.1 (Nat.le_of_ble_eq_true rfl) ⟨Nat.zero_le _, Nat.zero_le _⟩ hP hS (fun _ h => h) rfl dX3_write_71 (fun H locs hP hS _ _ => ?_)
        refine lv_istore (lv' := [(7, .int (HM.wrA (HM.opn (HM.stp x t) t k) (t) (k))), (6, .int (HM.stc (x) (t))), (5, .ref (ad (9 + k))), (4, .ref (ad (57 + t))), (0, .ref (ad 0)), (1, .int (nI t)), (2, .int (nI k)), (3, .int (v))]) hx hb dX3_write_74 hl (by decide) rfl (fun ls hl => ?_)
        have hP : va_P D vwCl (hc_mem ad cy (HM.wrM (HM.opn (HM.stp x t) t k) t k v)) H := hP
        refine lv_aload hx hb dX3_write_76 (lv_at hl 3 rfl) ?_
        refine hc_g_txn G (in_X3_write_X2) hP (ht) 1 (by decide) (by decide +kernel) (.ref (ad (5 + HM.gt (HM.wrM (HM.opn (HM.stp x t) t k) t k v) (t)))) rfl rfl dX3_write_78 ?_
        refine lv_aload hx hb dX3_write_81 (lv_at hl 2 rfl) ?_
        refine hc_g_keyn G (in_X3_write_X0) hP (hk) 1 (by decide) (by decide +kernel) (.ref (ad (5 + (k) % 4))) rfl rfl dX3_write_83 ?_
        refine hc_g_noden G (in_X3_write_X1) hP ((Nat.mod_lt _ (by decide))) 1 (by decide) (by decide +kernel) (.long (HM.ck (HM.wrM (HM.opn (HM.stp x t) t k) t k v) ((k) % 4))) rfl rfl dX3_write_86 ?_
        refine hs_callN (n := 1) (As := [.long (HM.ck (HM.wrM (HM.opn (HM.stp x t) t k) t k v) ((k) % 4))]) (rest := []) G hml (c_takeIn l D cy ad ho (HM.wrM (HM.opn (HM.stp x t) t k) t k v) ((hI3.gt ht)) (HM.ck (HM.wrM (HM.opn (HM.stp x t) t k) t k v) ((k) % 4))) gX3_write_X1_takeIn_n92 rfl rfl rfl (by decide +kernel) (by decide +kernel) (by decide +kernel) (C := RX1) (by decide +kernel) (by decide +kernel) ⟨Nat.le_of_ble_eq_true rfl, Nat.le_of_ble_eq_true rfl⟩ (ci := 1) rfl rfl (hc_at_node ((hI3.gt ht))) rfl hl.1 (Nat.le_of_ble_eq_true rfl) ⟨Nat.zero_le _, Nat.zero_le _⟩ hP hS (fun _ h => h) rfl dX3_write_89 (fun H locs hP hS _ _ => ?_)
        refine lv_iload hx hb dX3_write_92 (lv_at hl 0 rfl) ?_
        exact ct_iret hx hb hr hlocks (by rw [eA, if_pos c_1]) (by rw [eM, if_pos c_1]; exact hP) hS dX3_write_94
      · refine lv_iload hx hb dX3_write_38 (lv_at hl 0 rfl) ?_
        exact ct_iret hx hb hr hlocks (by rw [eA, if_neg c_1]) (by rw [eM, if_neg c_1]; exact hP) hS dX3_write_40
theorem in_X3_commit_X3 : ∀ w ∈ u_ws RX3 TX3 6, w ∈ wsX3_commit := by decide +kernel
theorem in_X3_commit_X1 : ∀ w ∈ u_ws RX1 TX1 2, w ∈ wsX3_commit := by decide +kernel
theorem in_X3_commit_X2 : ∀ w ∈ u_ws RX2 TX2 9, w ∈ wsX3_commit := by decide +kernel
set_option maxHeartbeats 4000000 in
set_option maxRecDepth 100000 in
/-- c_commit -/
theorem c_commit (l : Launch) (D : va_G) (cy : Nat → ClassId) (ad : Nat → Nat) (ho : hc_ok ad) (x : HM) (B : Int) (hIn : x.In B) (hB : B + 200 < 4611686018427387904) (hcm : ∀ t, t < 8 → x.ph t = 1 → x.cm.length < 256) (z : Int32) : Ct l yX3_commit wsX3_commit ({ frames := 5, cells := 0, slots := 0, locals := 113 }) D cy (hc_A ad) [.ref (ad 0), .int (z)] (hc_mem ad cy (x)) (some (.int (x.commitA z))) (hc_mem ad cy (x.commitM z)) := by
  rcases hs_rng z (b := 8) (by decide) with hz | ⟨t, ht, rfl⟩
  · refine ct_of (cc := cX3_commit) (maxL := 4) (ret := (some .int)) rfl (by decide) (Nat.le_of_ble_eq_true rfl) ?_
    intro p e s m below meth c ls G hx hb hml hr hlocks hP hS hl
    have hl : lv_has ls 4 [(0, .ref (ad 0)), (1, .int (z))] := hl
    refine lv_aload_n hx hb dX3_commit_0 rfl (lv_at hl 0 rfl) ?_
    refine lv_iload_n hx hb dX3_commit_1 rfl (lv_at hl 1 rfl) ?_
    refine hs_callV (n := 1) (As := [.int (z)]) (rest := []) G hml (c_transactionAt_no l D cy ad ho (x) (z) hz) gX3_commit_X3_transactionAt rfl rfl rfl (by decide +kernel) ⟨Nat.le_of_ble_eq_true rfl, Nat.le_of_ble_eq_true rfl⟩ (ci := 3) rfl rfl (hc_at_top (j := 0) (by decide)) rfl hl.1 (Nat.le_of_ble_eq_true rfl) ⟨Nat.zero_le _, Nat.zero_le _⟩ hP hS (fun _ h => h) rfl dX3_commit_2 (fun H locs hP hS _ _ => ?_)
    refine lv_astore_nN (lv' := [(2, .null), (0, .ref (ad 0)), (1, .int (z))]) hx hb dX3_commit_5 rfl hl (by decide) rfl (fun ls hl => ?_)
    refine lv_aload_nN hx hb dX3_commit_6 rfl (lv_at hl 0 rfl) ?_
    refine lv_ifnonnullN hx hb dX3_commit_7 ?_
    refine lv_iconst (v := (-1)) hx hb dX3_commit_10 (by decide) ?_
    exact ct_iret hx hb hr hlocks (by rw [HM.commitA, hs_n_out hz]) (by rw [HM.commitM, hs_n_out hz]; exact hP) hS dX3_commit_11
  · have eT := hs_n_in ht (show 8 < 2 ^ 31 by decide)
    have eA : x.commitA (nI t) = if x.stc t = 0 then ((x.stp t).ev ((x.stp t).gt t)).cmtA t else x.stc t := by rw [HM.commitA, eT]
    have eM : x.commitM (nI t) = if x.stc t = 0 then ((x.stp t).ev ((x.stp t).gt t)).cmtM t else x.stp t := by rw [HM.commitM, eT]
    have hI0 := hIn.stp t
    have hI1 := hI0.ev (by omega) (hI0.gt ht)
    rw [eA, eM]
    have hc1 : x.stc t = 0 → ((x.stp t).ev ((x.stp t).gt t)).cm.length < 256 := fun q => by
      have h := hs_stc0 q
      rw [show ((x.stp t).ev ((x.stp t).gt t)).cm = (x.stp t).cm from rfl, h.2]; exact hcm t ht (hs_code0 h.1)
    generalize hy : (x.stp t).ev ((x.stp t).gt t) = y at hI1 hc1 ⊢
    have hIm := HM.In.mrs ht 16 0 y _ rfl hI1 (by omega)
    refine ct_of (cc := cX3_commit) (maxL := 4) (ret := (some .int)) rfl (by decide) (Nat.le_of_ble_eq_true rfl) ?_
    intro p e s m below meth c ls G hx hb hml hr hlocks hP hS hl
    have hl : lv_has ls 4 [(0, .ref (ad 0)), (1, .int (nI t))] := hl
    have J58 : ∀ (u : HM), u.cm.length < 256 → (if x.stc t = 0 then y.cmtM t else x.stp t) = u.fin t → (if x.stc t = 0 then y.cmtA t else x.stc t) = 0 → ∀ (H : Heap) (locs : List Loc), va_P D vwCl (hc_mem ad cy (u)) H → va_S (hc_A ad) s.heap H locs → ∀ ls : Array Slot, lv_has ls 4 [(0, .ref (ad 0)), (2, .ref (ad (57 + t)))] → W p l e ({ frames := 5, cells := 0, slots := 0, locals := 113 }) s m [.ref (ad 0), .int (nI t)].toArray below meth c H locs 0 0 (MQ below (hs_Post D (some (.int (if x.stc t = 0 then y.cmtA t else x.stc t))) (hc_mem ad cy (if x.stc t = 0 then y.cmtM t else x.stp t)) (hc_A ad)) [.ref (ad 0), .int (nI t)].toArray s 0 0 (hc_A ad)) (F0 m 58 ls []) := by
      intro u hu e1 e2 H locs hP hS ls hl
      refine lv_aload_n hx hb dX3_commit_58 rfl (lv_at hl 1 rfl) ?_
      refine lv_aload_n hx hb dX3_commit_59 rfl (lv_at hl 1 rfl) ?_
      refine hc_g_txn G (in_X3_commit_X2) hP (ht) 5 (by decide) (by decide +kernel) (.long (HM.ws (u) (t))) rfl rfl dX3_commit_60 ?_
      refine hc_p_txn ho G (in_X3_commit_X2) hP hS (ht) 4 (by decide) (by decide +kernel) (.long (HM.ws (u) (t))) rfl rfl (.long) (by decide +kernel) rfl rfl (Nat.le_of_ble_eq_true rfl) (HM.u_rs (u) (t) (HM.ws (u) (t))) (hc_s_rs (v := HM.ws (u) (t)) (ht)) dX3_commit_63 (fun H locs hP hS => ?_)
      refine lv_aload_n hx hb dX3_commit_66 rfl (lv_at hl 1 rfl) ?_
      refine lv_iconst (v := 2) hx hb dX3_commit_67 (by decide) ?_
      refine hc_p_txn ho G (in_X3_commit_X2) hP hS (ht) 0 (by decide) (by decide +kernel) (.int (2)) rfl rfl (.int) (by decide +kernel) rfl rfl (Nat.le_of_ble_eq_true rfl) (HM.u_ph (HM.u_rs (u) (t) (HM.ws (u) (t))) (t) (2)) (hc_s_ph (v := 2) (ht)) dX3_commit_68 (fun H locs hP hS => ?_)
      refine lv_aload_n hx hb dX3_commit_71 rfl (lv_at hl 0 rfl) ?_
      refine lv_aload_n hx hb dX3_commit_72 rfl (lv_at hl 1 rfl) ?_
      refine hc_g_txn G (in_X3_commit_X2) hP (ht) 5 (by decide) (by decide +kernel) (.long (HM.ws (HM.u_ph (HM.u_rs (u) (t) (HM.ws (u) (t))) (t) (2)) (t))) rfl rfl dX3_commit_73 ?_
      refine hs_callV (n := 1) (As := [.long (HM.ws (HM.u_ph (HM.u_rs (u) (t) (HM.ws (u) (t))) (t) (2)) (t))]) (rest := []) G hml (c_logCommit l D cy ad ho (HM.u_ph (HM.u_rs (u) (t) (HM.ws (u) (t))) (t) (2)) (hu) (HM.ws (HM.u_ph (HM.u_rs (u) (t) (HM.ws (u) (t))) (t) (2)) (t))) gX3_commit_X3_logCommit rfl rfl rfl (by decide +kernel) ⟨Nat.le_of_ble_eq_true rfl, Nat.le_of_ble_eq_true rfl⟩ (ci := 3) rfl rfl (hc_at_top (j := 0) (by decide)) rfl hl.1 (Nat.le_of_ble_eq_true rfl) ⟨Nat.zero_le _, Nat.zero_le _⟩ hP hS (fun _ h => h) rfl dX3_commit_76 (fun H locs hP hS _ _ => ?_)
      refine lv_iconst (v := 0) hx hb dX3_commit_79 (by decide) ?_
      exact ct_iret hx hb hr hlocks (by rw [e2]) (by rw [e1]; exact hP) hS dX3_commit_80
    refine lv_aload_n hx hb dX3_commit_0 rfl (lv_at hl 0 rfl) ?_
    refine lv_iload_n hx hb dX3_commit_1 rfl (lv_at hl 1 rfl) ?_
    refine hs_callV (n := 1) (As := [.int (nI t)]) (rest := []) G hml (c_transactionAt l D cy ad ho (x) ht) gX3_commit_X3_transactionAt rfl rfl rfl (by decide +kernel) ⟨Nat.le_of_ble_eq_true rfl, Nat.le_of_ble_eq_true rfl⟩ (ci := 3) rfl rfl (hc_at_top (j := 0) (by decide)) rfl hl.1 (Nat.le_of_ble_eq_true rfl) ⟨Nat.zero_le _, Nat.zero_le _⟩ hP hS (fun _ h => h) rfl dX3_commit_2 (fun H locs hP hS _ _ => ?_)
    refine lv_astore_n (lv' := [(2, .ref (ad (57 + t))), (0, .ref (ad 0)), (1, .int (nI t))]) hx hb dX3_commit_5 rfl hl (by decide) rfl (fun ls hl => ?_)
    refine lv_aload_n hx hb dX3_commit_6 rfl (lv_at hl 0 rfl) ?_
    refine lv_ifnonnull (tgt := 12) hx hb dX3_commit_7 (by decide) ?_
    refine lv_aload_n hx hb dX3_commit_12 rfl (lv_at hl 0 rfl) ?_
    refine hs_callN (n := 0) (As := []) (rest := []) G hml (c_takeStop l D cy ad ho (x) (ht)) gX3_commit_X2_takeStoppingCode_n80 rfl rfl rfl (by decide +kernel) (by decide +kernel) (by decide +kernel) (C := RX2) (by decide +kernel) (by decide +kernel) ⟨Nat.le_of_ble_eq_true rfl, Nat.le_of_ble_eq_true rfl⟩ (ci := 2) rfl rfl (hc_at_tx (ht)) rfl hl.1 (Nat.le_of_ble_eq_true rfl) ⟨Nat.zero_le _, Nat.zero_le _⟩ hP hS (fun _ h => h) rfl dX3_commit_13 (fun H locs hP hS _ _ => ?_)
    refine lv_istore_n (lv' := [(3, .int (HM.stc (x) (t))), (2, .ref (ad (57 + t))), (0, .ref (ad 0)), (1, .int (nI t))]) hx hb dX3_commit_16 rfl hl (by decide) rfl (fun ls hl => ?_)
    refine lv_iload_n hx hb dX3_commit_17 rfl (lv_at hl 0 rfl) ?_
    refine lv_if_eq (tgt := 23) hx hb dX3_commit_18 (by decide) (fun c_1 => ?_) (fun c_1 => ?_)
    · have hc0 := c_1
      have hcl := hc1 hc0
      refine lv_aload_n hx hb dX3_commit_23 rfl (lv_at hl 1 rfl) ?_
      refine hc_g_txn G (in_X3_commit_X2) hP (ht) 1 (by decide) (by decide +kernel) (.ref (ad (5 + HM.gt (HM.stp (x) (t)) (t)))) rfl rfl dX3_commit_24 ?_
      refine hs_callN (n := 0) (As := []) (rest := []) G hml (c_haveEvent l D cy ad ho (HM.stp (x) (t)) ((hI0.gt ht))) gX3_commit_X1_haveEvent_n50 rfl rfl rfl (by decide +kernel) (by decide +kernel) (by decide +kernel) (C := RX1) (by decide +kernel) (by decide +kernel) ⟨Nat.le_of_ble_eq_true rfl, Nat.le_of_ble_eq_true rfl⟩ (ci := 1) rfl rfl (hc_at_node ((hI0.gt ht))) rfl hl.1 (Nat.le_of_ble_eq_true rfl) ⟨Nat.zero_le _, Nat.zero_le _⟩ hP hS (fun _ h => h) rfl dX3_commit_27 (fun H locs hP hS _ _ => ?_)
      rw [hy] at hP
      refine lv_aload_n hx hb dX3_commit_30 rfl (lv_at hl 1 rfl) ?_
      refine hc_g_txn G (in_X3_commit_X2) hP (ht) 5 (by decide) (by decide +kernel) (.long (HM.ws (y) (t))) rfl rfl dX3_commit_31 ?_
      refine lv_aload_n hx hb dX3_commit_34 rfl (lv_at hl 1 rfl) ?_
      refine hc_g_txn G (in_X3_commit_X2) hP (ht) 4 (by decide) (by decide +kernel) (.long (HM.rs (y) (t))) rfl rfl dX3_commit_35 ?_
      refine hs_lle (x := HM.ws (y) (t)) (y := HM.rs (y) (t)) (tgt := 58) hx hb dX3_commit_38 dX3_commit_39 (by decide) (fun c_2 => ?_) (fun c_2 => ?_)
      · exact J58 y hcl (by rw [if_pos hc0, HM.cmtM, if_neg c_2]) (by rw [if_pos hc0, HM.cmtA, if_neg c_2]) H locs hP hS ls (lv_sub hl [2, 1] rfl)
      · refine lv_aload_n hx hb dX3_commit_42 rfl (lv_at hl 2 rfl) ?_
        refine lv_aload_n hx hb dX3_commit_43 rfl (lv_at hl 1 rfl) ?_
        refine hs_callV (n := 1) (As := [.ref (ad (57 + t))]) (rest := []) G hml (c_moveReads l D cy ad ho (y) _ (hI1) (by omega) (ht)) gX3_commit_X3_moveReadsToWriteStamp rfl rfl rfl (by decide +kernel) ⟨Nat.le_of_ble_eq_true rfl, Nat.le_of_ble_eq_true rfl⟩ (ci := 3) rfl rfl (hc_at_top (j := 0) (by decide)) rfl hl.1 (Nat.le_of_ble_eq_true rfl) ⟨Nat.zero_le _, Nat.zero_le _⟩ hP hS (fun _ h => h) rfl dX3_commit_44 (fun H locs hP hS _ _ => ?_)
        refine lv_if_ne (tgt := 58) hx hb dX3_commit_47 (by decide) (fun c_3 => ?_) (fun c_3 => ?_)
        · have hmr : (hs_mrs t 16 0 y).2 = true := by
            cases hq : (hs_mrs t 16 0 y).2 with
            | true => rfl
            | false => rw [hq] at c_3; exact absurd rfl c_3
          exact J58 (hs_mrs t 16 0 y).1 (by rw [hs_mrs_cm]; exact hcl) (by rw [if_pos hc0, HM.cmtM, if_pos c_2, if_pos hmr]) (by rw [if_pos hc0, HM.cmtA, if_pos c_2, if_pos hmr]) H locs hP hS ls (lv_sub hl [2, 1] rfl)
        · have hmr : (hs_mrs t 16 0 y).2 = false := by
            cases hq : (hs_mrs t 16 0 y).2 with
            | false => rfl
            | true => rw [hq] at c_3; exact absurd c_3 (by decide)
          refine lv_aload_n hx hb dX3_commit_50 rfl (lv_at hl 2 rfl) ?_
          refine lv_aload_n hx hb dX3_commit_51 rfl (lv_at hl 1 rfl) ?_
          refine lv_lconst (v := 0) hx hb dX3_commit_52 (by decide) ?_
          refine hs_callV (n := 2) (As := [.ref (ad (57 + t)), .long (0)]) (rest := []) G hml (c_restart l D cy ad ho ((hs_mrs (t) 16 0 (y)).1) (fun _ h => hIm.hd h) (ht) (0)) gX3_commit_X3_restart rfl rfl rfl (by decide +kernel) ⟨Nat.le_of_ble_eq_true rfl, Nat.le_of_ble_eq_true rfl⟩ (ci := 3) rfl rfl (hc_at_top (j := 0) (by decide)) rfl hl.1 (Nat.le_of_ble_eq_true rfl) ⟨Nat.zero_le _, Nat.zero_le _⟩ hP hS (fun _ h => h) rfl dX3_commit_53 (fun H locs hP hS _ _ => ?_)
          refine lv_iconst (v := 1) hx hb dX3_commit_56 (by decide) ?_
          exact ct_iret hx hb hr hlocks (by rw [if_pos hc0, HM.cmtA, if_pos c_2, if_neg (by rw [hmr]; decide)]) (by rw [if_pos hc0, HM.cmtM, if_pos c_2, if_neg (by rw [hmr]; decide)]; exact hP) hS dX3_commit_57
    · refine lv_iload_n hx hb dX3_commit_21 rfl (lv_at hl 0 rfl) ?_
      exact ct_iret hx hb hr hlocks (by rw [if_neg c_1]) (by rw [if_neg c_1]; exact hP) hS dX3_commit_22
theorem in_X3_clean_X3 : ∀ w ∈ u_ws RX3 TX3 6, w ∈ wsX3_clean := by decide +kernel
theorem in_X3_clean_X0 : ∀ w ∈ u_ws RX0 TX0 8, w ∈ wsX3_clean := by decide +kernel
theorem in_X3_clean_X1 : ∀ w ∈ u_ws RX1 TX1 2, w ∈ wsX3_clean := by decide +kernel
theorem in_X3_clean_X2 : ∀ w ∈ u_ws RX2 TX2 9, w ∈ wsX3_clean := by decide +kernel
set_option maxHeartbeats 4000000 in
set_option maxRecDepth 100000 in
/-- c_clean -/
theorem c_clean (l : Launch) (D : va_G) (cy : Nat → ClassId) (ad : Nat → Nat) (ho : hc_ok ad) (x : HM) (B : Int) (hIn : x.In B) (hB : B + 200 < 4611686018427387904) (z : Int32) : Ct l yX3_clean wsX3_clean ({ frames := 2, cells := 0, slots := 0, locals := 43 }) D cy (hc_A ad) [.ref (ad 0), .int (z)] (hc_mem ad cy (x)) (some (.int (x.cleanA z))) (hc_mem ad cy (x.cleanM z)) := by
  rcases hs_rng z (b := 8) (by decide) with hz | ⟨t, ht, rfl⟩
  · refine ct_of (cc := cX3_clean) (maxL := 7) (ret := (some .int)) rfl (by decide) (Nat.le_of_ble_eq_true rfl) ?_
    intro p e s m below meth c ls G hx hb hml hr hlocks hP hS hl
    have hl : lv_has ls 7 [(0, .ref (ad 0)), (1, .int (z))] := hl
    refine lv_aload_n hx hb dX3_clean_0 rfl (lv_at hl 0 rfl) ?_
    refine lv_iload_n hx hb dX3_clean_1 rfl (lv_at hl 1 rfl) ?_
    refine hs_callV (n := 1) (As := [.int (z)]) (rest := []) G hml (c_transactionAt_no l D cy ad ho (x) (z) hz) gX3_clean_X3_transactionAt rfl rfl rfl (by decide +kernel) ⟨Nat.le_of_ble_eq_true rfl, Nat.le_of_ble_eq_true rfl⟩ (ci := 3) rfl rfl (hc_at_top (j := 0) (by decide)) rfl hl.1 (Nat.le_of_ble_eq_true rfl) ⟨Nat.zero_le _, Nat.zero_le _⟩ hP hS (fun _ h => h) rfl dX3_clean_2 (fun H locs hP hS _ _ => ?_)
    refine lv_astore_nN (lv' := [(2, .null), (0, .ref (ad 0)), (1, .int (z))]) hx hb dX3_clean_5 rfl hl (by decide) rfl (fun ls hl => ?_)
    refine lv_aload_nN hx hb dX3_clean_6 rfl (lv_at hl 0 rfl) ?_
    refine lv_ifnonnullN hx hb dX3_clean_7 ?_
    refine lv_iconst (v := (-1)) hx hb dX3_clean_10 (by decide) ?_
    exact ct_iret hx hb hr hlocks (by rw [HM.cleanA, hs_n_out hz]) (by rw [HM.cleanM, hs_n_out hz]; exact hP) hS dX3_clean_11
  · have eT := hs_n_in ht (show 8 < 2 ^ 31 by decide)
    have eA : x.cleanA (nI t) = if x.ph t = 0 then -4 else if x.ph t = 1 then -9 else 0 := by rw [HM.cleanA, eT]
    have eM : x.cleanM (nI t) = if x.ph t = 0 then x else if x.ph t = 1 then x else (hs_cl t 16 0 x).u_ph t 0 := by rw [HM.cleanM, eT]
    rw [eA, eM]
    refine ct_of (cc := cX3_clean) (maxL := 7) (ret := (some .int)) rfl (by decide) (Nat.le_of_ble_eq_true rfl) ?_
    intro p e s m below meth c ls G hx hb hml hr hlocks hP hS hl
    have hl : lv_has ls 7 [(0, .ref (ad 0)), (1, .int (nI t))] := hl
    have loop : ¬ x.ph t = 0 → ¬ x.ph t = 1 → ∀ (n i : Nat), i + n = 16 → ∀ (y : HM) (C : Int), y.In C → C + n + 20 < 4611686018427387904 → hs_cl t n i y = hs_cl t 16 0 x → ∀ (H : Heap) (locs : List Loc), va_P D vwCl (hc_mem ad cy y) H → va_S (hc_A ad) s.heap H locs → ∀ ls : Array Slot, lv_has ls 7 [(5, .int (nI i)), (4, .int (16)), (3, .ref (ad 2)), (0, .ref (ad 0)), (2, .ref (ad (57 + t)))] → W p l e ({ frames := 2, cells := 0, slots := 0, locals := 43 }) s m [.ref (ad 0), .int (nI t)].toArray below meth c H locs 0 0 (MQ below (hs_Post D (some (.int (if x.ph t = 0 then -4 else if x.ph t = 1 then -9 else 0))) (hc_mem ad cy (if x.ph t = 0 then x else if x.ph t = 1 then x else (hs_cl t 16 0 x).u_ph t 0)) (hc_A ad)) [.ref (ad 0), .int (nI t)].toArray s 0 0 (hc_A ad)) (F0 m 45 ls []) := by
      intro hp0 hp1 n
      induction n with
      | zero =>
        intro i hi y C hy hC he H locs hP hS ls hl
        refine lv_iload hx hb dX3_clean_45 (lv_at hl 0 rfl) ?_
        refine lv_iload hx hb dX3_clean_47 (lv_at hl 1 rfl) ?_
        refine lv_icmp_ge (tgt := 93) hx hb dX3_clean_49 (by decide) (fun c_1 => ?_) (fun c_1 => ?_)
        · refine lv_aload_n hx hb dX3_clean_93 rfl (lv_at hl 4 rfl) ?_
          refine lv_iconst (v := 0) hx hb dX3_clean_94 (by decide) ?_
          refine hc_p_txn ho G (in_X3_clean_X2) hP hS (ht) 0 (by decide) (by decide +kernel) (.int (0)) rfl rfl (.int) (by decide +kernel) rfl rfl (Nat.le_of_ble_eq_true rfl) (HM.u_ph (y) (t) (0)) (hc_s_ph (v := 0) (ht)) dX3_clean_95 (fun H locs hP hS => ?_)
          refine lv_iconst (v := 0) hx hb dX3_clean_98 (by decide) ?_
          exact ct_iret hx hb hr hlocks (by rw [if_neg hp0, if_neg hp1]) (by rw [if_neg hp0, if_neg hp1, ← he]; exact hP) hS dX3_clean_99
        · exact absurd (show (16 : Int32) ≤ nI i from nI_le (a := 16) (by omega) (by omega)) c_1
      | succ n ih =>
        intro i hi y C hy hC he H locs hP hS ls hl
        refine lv_iload hx hb dX3_clean_45 (lv_at hl 0 rfl) ?_
        refine lv_iload hx hb dX3_clean_47 (lv_at hl 1 rfl) ?_
        refine lv_icmp_ge (tgt := 93) hx hb dX3_clean_49 (by decide) (fun c_1 => ?_) (fun c_1 => ?_)
        · exact absurd c_1 (nI_ge (b := 16) (by omega) (by decide))
        · have hi16 : i < 16 := by omega
          refine lv_aload_n hx hb dX3_clean_52 rfl (lv_at hl 2 rfl) ?_
          refine lv_iload hx hb dX3_clean_53 (lv_at hl 0 rfl) ?_
          refine va_aldq hx hb G.2.2.2.2.1 hP 2 4 (hc_at_top (by decide)) rfl (hs_in (k := i) (n := 16) (nI_clamp (by omega)) (hs_inN (by omega) (by decide))) dX3_clean_55 ?_
          rw [show Int32.toNatClampNeg (nI i) = i from nI_clamp (by omega)]
          show W _ _ _ _ _ _ _ _ _ _ _ _ _ _ _ (F0 m (55 + 1) ls (.ref (ad (9 + i)) :: []))
          refine lv_astore (lv' := [(6, .ref (ad (9 + i))), (5, .int (nI i)), (4, .int (16)), (3, .ref (ad 2)), (0, .ref (ad 0)), (2, .ref (ad (57 + t)))]) hx hb dX3_clean_56 hl (by decide) rfl (fun ls hl => ?_)
          refine lv_aload hx hb dX3_clean_58 (lv_at hl 0 rfl) ?_
          refine hc_g_keyn G (in_X3_clean_X0) hP (hi16) 6 (by decide) (by decide +kernel) (va_rf ((HM.hd (y) (i)).map (fun t => ad (57 + t)))) rfl rfl dX3_clean_60 ?_
          refine lv_aload_n hx hb dX3_clean_63 rfl (lv_at hl 5 rfl) ?_
          refine lv_acmp_ne (rx := (HM.hd (y) (i)).map (fun t => ad (57 + t))) (ry := some (ad (57 + t))) (tgt := 87) hx hb dX3_clean_64 (by decide) (fun c_2 => ?_) (fun c_2 => ?_)
          · have hh : ¬ y.hd i = some t := fun q => c_2 ((hc_txI ho ht (hy.hd hi16)).mpr q)
            refine lv_iinc (v := nI (i + 1)) (lv' := [(5, .int (nI (i + 1))), (6, .ref (ad (9 + i))), (4, .int (16)), (3, .ref (ad 2)), (0, .ref (ad 0)), (2, .ref (ad (57 + t)))]) hx hb dX3_clean_87 hl (k := 1) rfl (nI_1 i) (by decide) rfl (fun ls hl => ?_)
            refine lv_goto (tgt := 45) hx hb dX3_clean_90 (by decide) ?_
            have hck : y.clk t i = y := if_neg hh
            exact ih (i + 1) (by omega) (y.clk t i) (C + 1) (hy.clk (by omega) ht hi16) (by omega) (by rw [← he, hs_cl_succ]) H locs (by rw [hck]; exact hP) hS ls (lv_sub hl [0, 2, 3, 4, 5] rfl)
          · have hh : y.hd i = some t := (hc_txI ho ht (hy.hd hi16)).mp c_2
            refine lv_aload hx hb dX3_clean_67 (lv_at hl 0 rfl) ?_
            refine hc_g_keyn G (in_X3_clean_X0) hP (hi16) 1 (by decide) (by decide +kernel) (.ref (ad (5 + (i) % 4))) rfl rfl dX3_clean_69 ?_
            refine lv_aload_n hx hb dX3_clean_72 rfl (lv_at hl 5 rfl) ?_
            refine hc_g_txn G (in_X3_clean_X2) hP (ht) 1 (by decide) (by decide +kernel) (.ref (ad (5 + HM.gt (y) (t)))) rfl rfl dX3_clean_73 ?_
            refine hc_g_noden G (in_X3_clean_X1) hP ((hy.gt ht)) 1 (by decide) (by decide +kernel) (.long (HM.ck (y) (HM.gt (y) (t)))) rfl rfl dX3_clean_76 ?_
            refine hs_callN (n := 1) (As := [.long (HM.ck (y) (HM.gt (y) (t)))]) (rest := []) G hml (c_takeIn l D cy ad ho (y) ((Nat.mod_lt _ (by decide))) (HM.ck (y) (HM.gt (y) (t)))) gX3_clean_X1_takeIn_n92 rfl rfl rfl (by decide +kernel) (by decide +kernel) (by decide +kernel) (C := RX1) (by decide +kernel) (by decide +kernel) ⟨Nat.le_of_ble_eq_true rfl, Nat.le_of_ble_eq_true rfl⟩ (ci := 1) rfl rfl (hc_at_node ((Nat.mod_lt _ (by decide)))) rfl hl.1 (Nat.le_of_ble_eq_true rfl) ⟨Nat.zero_le _, Nat.zero_le _⟩ hP hS (fun _ h => h) rfl dX3_clean_79 (fun H locs hP hS _ _ => ?_)
            refine lv_aload hx hb dX3_clean_82 (lv_at hl 0 rfl) ?_
            refine hs_callN (n := 0) (As := []) (rest := []) G hml (c_settle l D cy ad ho (HM.tk (y) ((i) % 4) (HM.ck (y) (HM.gt (y) (t)))) (hi16) (ht) (hh) (hy.lt16 hi16 (by rw [hh]; rfl))) gX3_clean_X0_settleIntent_n134 rfl rfl rfl (by decide +kernel) (by decide +kernel) (by decide +kernel) (C := RX0) (by decide +kernel) (by decide +kernel) ⟨Nat.le_of_ble_eq_true rfl, Nat.le_of_ble_eq_true rfl⟩ (ci := 0) rfl rfl (hc_at_key (hi16)) rfl hl.1 (Nat.le_of_ble_eq_true rfl) ⟨Nat.zero_le _, Nat.zero_le _⟩ hP hS (fun _ h => h) rfl dX3_clean_84 (fun H locs hP hS _ _ => ?_)
            refine lv_iinc (v := nI (i + 1)) (lv' := [(5, .int (nI (i + 1))), (6, .ref (ad (9 + i))), (4, .int (16)), (3, .ref (ad 2)), (0, .ref (ad 0)), (2, .ref (ad (57 + t)))]) hx hb dX3_clean_87 hl (k := 1) rfl (nI_1 i) (by decide) rfl (fun ls hl => ?_)
            refine lv_goto (tgt := 45) hx hb dX3_clean_90 (by decide) ?_
            have hck : y.clk t i = ((y.tk (i % 4) (y.ck (y.gt t))).stl i t) := if_pos hh
            exact ih (i + 1) (by omega) (y.clk t i) (C + 1) (hy.clk (by omega) ht hi16) (by omega) (by rw [← he, hs_cl_succ]) H locs (by rw [hck]; exact hP) hS ls (lv_sub hl [0, 2, 3, 4, 5] rfl)
    refine lv_aload_n hx hb dX3_clean_0 rfl (lv_at hl 0 rfl) ?_
    refine lv_iload_n hx hb dX3_clean_1 rfl (lv_at hl 1 rfl) ?_
    refine hs_callV (n := 1) (As := [.int (nI t)]) (rest := []) G hml (c_transactionAt l D cy ad ho (x) ht) gX3_clean_X3_transactionAt rfl rfl rfl (by decide +kernel) ⟨Nat.le_of_ble_eq_true rfl, Nat.le_of_ble_eq_true rfl⟩ (ci := 3) rfl rfl (hc_at_top (j := 0) (by decide)) rfl hl.1 (Nat.le_of_ble_eq_true rfl) ⟨Nat.zero_le _, Nat.zero_le _⟩ hP hS (fun _ h => h) rfl dX3_clean_2 (fun H locs hP hS _ _ => ?_)
    refine lv_astore_n (lv' := [(2, .ref (ad (57 + t))), (0, .ref (ad 0)), (1, .int (nI t))]) hx hb dX3_clean_5 rfl hl (by decide) rfl (fun ls hl => ?_)
    refine lv_aload_n hx hb dX3_clean_6 rfl (lv_at hl 0 rfl) ?_
    refine lv_ifnonnull (tgt := 12) hx hb dX3_clean_7 (by decide) ?_
    refine lv_aload_n hx hb dX3_clean_12 rfl (lv_at hl 0 rfl) ?_
    refine hc_g_txn G (in_X3_clean_X2) hP (ht) 0 (by decide) (by decide +kernel) (.int (HM.ph (x) (t))) rfl rfl dX3_clean_13 ?_
    refine lv_if_ne (tgt := 22) hx hb dX3_clean_16 (by decide) (fun c_1 => ?_) (fun c_1 => ?_)
    · refine lv_aload_n hx hb dX3_clean_22 rfl (lv_at hl 0 rfl) ?_
      refine hc_g_txn G (in_X3_clean_X2) hP (ht) 0 (by decide) (by decide +kernel) (.int (HM.ph (x) (t))) rfl rfl dX3_clean_23 ?_
      refine lv_iconst (v := 1) hx hb dX3_clean_26 (by decide) ?_
      refine lv_icmp_ne (tgt := 33) hx hb dX3_clean_27 (by decide) (fun c_2 => ?_) (fun c_2 => ?_)
      · refine lv_aload_n hx hb dX3_clean_33 rfl (lv_at hl 1 rfl) ?_
        refine hc_g_store G (in_X3_clean_X3) hP 1 (by decide) (by decide +kernel) (.ref (ad 2)) rfl rfl dX3_clean_34 ?_
        refine lv_astore_n (lv' := [(3, .ref (ad 2)), (2, .ref (ad (57 + t))), (0, .ref (ad 0)), (1, .int (nI t))]) hx hb dX3_clean_37 rfl hl (by decide) rfl (fun ls hl => ?_)
        refine lv_aload_n hx hb dX3_clean_38 rfl (lv_at hl 0 rfl) ?_
        refine va_alen hx hb G.2.2.2.2.1 hP 2 4 (hc_at_top (by decide)) rfl (v := 16) rfl dX3_clean_39 ?_
        refine lv_istore (lv' := [(4, .int (16)), (3, .ref (ad 2)), (2, .ref (ad (57 + t))), (0, .ref (ad 0)), (1, .int (nI t))]) hx hb dX3_clean_40 hl (by decide) rfl (fun ls hl => ?_)
        refine lv_iconst (v := 0) hx hb dX3_clean_42 (by decide) ?_
        refine lv_istore (lv' := [(5, .int (0)), (4, .int (16)), (3, .ref (ad 2)), (2, .ref (ad (57 + t))), (0, .ref (ad 0)), (1, .int (nI t))]) hx hb dX3_clean_43 hl (by decide) rfl (fun ls hl => ?_)
        exact loop c_1 c_2 16 0 rfl x B hIn (by omega) rfl _ _ hP hS ls (lv_sub hl [0, 1, 2, 4, 3] rfl)
      · refine lv_bipush (v := (-9)) hx hb dX3_clean_30 (by decide) ?_
        exact ct_iret hx hb hr hlocks (by rw [if_neg c_1, if_pos c_2]) (by rw [if_neg c_1, if_pos c_2]; exact hP) hS dX3_clean_32
    · refine lv_bipush (v := (-4)) hx hb dX3_clean_19 (by decide) ?_
      exact ct_iret hx hb hr hlocks (by rw [if_pos c_1]) (by rw [if_pos c_1]; exact hP) hS dX3_clean_21

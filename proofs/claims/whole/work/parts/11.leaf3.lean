theorem in_X0_addVersion_X0 : ∀ w ∈ u_ws RX0 TX0 8, w ∈ wsX0_addVersion := by decide +kernel
set_option maxHeartbeats 4000000 in
set_option maxRecDepth 100000 in
/-- Key.addVersion -/
theorem c_addVersion (l : Launch) (D : va_G) (cy : Nat → ClassId) (ad : Nat → Nat) (ho : hc_ok ad) (x : HM) {k : Nat} (hk : k < 16) (hlt : (x.vk k).length < 16) (s0 : Int64) (v0 : Int32) : Ct l yX0_addVersion wsX0_addVersion ({ frames := 0, cells := 0, slots := 0, locals := 0 }) D cy (hc_A ad) [.ref (ad (9 + k)), .long (s0), .int (v0)] (hc_mem ad cy (x)) none (hc_mem ad cy (x.add k s0 v0)) := by
  refine ct_of (cc := cX0_addVersion) (maxL := 4) (ret := none) rfl (by decide) (Nat.le_of_ble_eq_true rfl) ?_
  intro p e s m below meth c ls G hx hb hml hr hlocks hP hS hl
  have hl : lv_has ls 4 [(0, .ref (ad (9 + k))), (1, .long (s0)), (3, .int (v0))] := hl
  refine lv_aload_n hx hb dX0_addVersion_0 rfl (lv_at hl 0 rfl) ?_
  refine hc_g_key G (in_X0_addVersion_X0) hP (hk) 4 (by decide) (by decide +kernel) (.int (nI (HM.vk (x) (k)).length)) rfl rfl dX0_addVersion_1 ?_
  refine lv_bipush (v := 16) hx hb dX0_addVersion_4 (by decide) ?_
  refine lv_icmp_ge (tgt := 39) hx hb dX0_addVersion_6 (by decide) (fun c_1 => ?_) (fun c_1 => ?_)
  · exact absurd c_1 (nI_ge (b := 16) hlt (by decide))
  · refine lv_aload_n hx hb dX0_addVersion_9 rfl (lv_at hl 0 rfl) ?_
    refine hc_g_key G (in_X0_addVersion_X0) hP (hk) 2 (by decide) (by decide +kernel) (.ref (ad (25 + k))) rfl rfl dX0_addVersion_10 ?_
    refine lv_aload_n hx hb dX0_addVersion_13 rfl (lv_at hl 0 rfl) ?_
    refine hc_g_key G (in_X0_addVersion_X0) hP (hk) 4 (by decide) (by decide +kernel) (.int (nI (HM.vk (x) (k)).length)) rfl rfl dX0_addVersion_14 ?_
    refine lv_lload_n hx hb dX0_addVersion_17 rfl (lv_at hl 1 rfl) ?_
    refine va_last hx hb G.2.2.2.2.1 hP (hc_D ho cy x) hS (25 + k) 1 (hc_at_st hk) rfl (hs_in (k := (x.vk k).length) (n := 16) (nI_clamp (by omega)) (hs_inN hlt (by decide))) dX0_addVersion_18 (fun H locs hP hD hS => ?_)
    rw [show Int32.toNatClampNeg (nI (x.vk k).length) = (x.vk k).length from nI_clamp (by omega)] at hP hD
    refine lv_aload_n hx hb dX0_addVersion_19 rfl (lv_at hl 0 rfl) ?_
    refine va_get (D := D) (ci := 0) (v := .ref (ad (41 + k))) (C := RX0) (T := TX0) (N := 8) hx hb G.2.2.1 in_X0_addVersion_X0 G.2.2.2.1 G.2.2.2.2.1 hP (9 + k) (by rw [List.getElem?_set_ne (by omega)]; exact hc_at_key hk) rfl 3 (by decide) (G.2.2.1 (.fieldLink RX0 23 "HlcStore$Key" (TX0 3).2.1 (TX0 3).2.2.1) (by decide +kernel)) (fun _ h9 => h9) rfl dX0_addVersion_20 ?_
    refine lv_aload_n hx hb dX0_addVersion_23 rfl (lv_at hl 0 rfl) ?_
    refine va_get (D := D) (ci := 0) (v := .int (nI (HM.vk (x) (k)).length)) (C := RX0) (T := TX0) (N := 8) hx hb G.2.2.1 in_X0_addVersion_X0 G.2.2.2.1 G.2.2.2.2.1 hP (9 + k) (by rw [List.getElem?_set_ne (by omega)]; exact hc_at_key hk) rfl 4 (by decide) (G.2.2.1 (.fieldLink RX0 43 "HlcStore$Key" (TX0 4).2.1 (TX0 4).2.2.1) (by decide +kernel)) (fun _ h9 => h9) rfl dX0_addVersion_24 ?_
    refine lv_iload_n hx hb dX0_addVersion_27 rfl (lv_at hl 2 rfl) ?_
    refine va_iast hx hb G.2.2.2.2.1 hP hD hS (41 + k) 0 (by rw [List.getElem?_set_ne (by omega)]; exact hc_at_va hk) rfl (hs_in (k := (x.vk k).length) (n := 16) (nI_clamp (by omega)) (hs_inN hlt (by decide))) dX0_addVersion_28 (fun H locs hP hD hS => ?_)
    rw [show Int32.toNatClampNeg (nI (x.vk k).length) = (x.vk k).length from nI_clamp (by omega)] at hP hD
    refine lv_aload_n hx hb dX0_addVersion_29 rfl (lv_at hl 0 rfl) ?_
    refine lv_dup hx hb dX0_addVersion_30 rfl ?_
    refine va_get (D := D) (ci := 0) (v := .int (nI (HM.vk (x) (k)).length)) (C := RX0) (T := TX0) (N := 8) hx hb G.2.2.1 in_X0_addVersion_X0 G.2.2.2.1 G.2.2.2.2.1 hP (9 + k) (by rw [List.getElem?_set_ne (by omega), List.getElem?_set_ne (by omega)]; exact hc_at_key hk) rfl 4 (by decide) (G.2.2.1 (.fieldLink RX0 43 "HlcStore$Key" (TX0 4).2.1 (TX0 4).2.2.1) (by decide +kernel)) (fun _ h9 => h9) rfl dX0_addVersion_31 ?_
    refine lv_iconst (v := 1) hx hb dX0_addVersion_34 (by decide) ?_
    refine lv_iadd hx hb dX0_addVersion_35 ?_
    rw [nI_1]
    refine va_put (D := D) (ci := 0) (v := .int (nI ((x.vk k).length + 1))) (ty := .int) (C := RX0) (T := TX0) (N := 8) hx hb G.2.2.1 in_X0_addVersion_X0 tyX0 tyX0_ok nmX0 G.2.2.2.1 G.2.2.2.2.1 hP hD hS (9 + k) (by rw [List.getElem?_set_ne (by omega), List.getElem?_set_ne (by omega)]; exact hc_at_key hk) rfl 4 (by decide) (G.2.2.1 (.fieldLink RX0 43 "HlcStore$Key" (TX0 4).2.1 (TX0 4).2.2.1) (by decide +kernel)) (fun _ h9 => h9) rfl (by decide +kernel) rfl rfl (Nat.le_of_ble_eq_true rfl) dX0_addVersion_36 (fun H locs hP _ hS => ?_)
    rw [hc_addV hk] at hP
    exact ct_vret hx hb hr hlocks rfl hP hS dX0_addVersion_39
theorem in_X0_settleIntent_X0 : ∀ w ∈ u_ws RX0 TX0 8, w ∈ wsX0_settleIntent := by decide +kernel
theorem in_X0_settleIntent_X2 : ∀ w ∈ u_ws RX2 TX2 9, w ∈ wsX0_settleIntent := by decide +kernel
set_option maxHeartbeats 4000000 in
set_option maxRecDepth 100000 in
/-- Key.settleIntent -/
theorem c_settle (l : Launch) (D : va_G) (cy : Nat → ClassId) (ad : Nat → Nat) (ho : hc_ok ad) (x : HM) {k : Nat} (hk : k < 16) {u : Nat} (hu8 : u < 8) (hh : x.hd k = some u) (hlt : (x.vk k).length < 16) : Ct l yX0_settleIntent wsX0_settleIntent ({ frames := 1, cells := 0, slots := 0, locals := 23 }) D cy (hc_A ad) [.ref (ad (9 + k))] (hc_mem ad cy (x)) none (hc_mem ad cy (x.stl k u)) := by
  refine ct_of (cc := cX0_settleIntent) (maxL := 1) (ret := none) rfl (by decide) (Nat.le_of_ble_eq_true rfl) ?_
  intro p e s m below meth c ls G hx hb hml hr hlocks hP hS hl
  have hl : lv_has ls 1 [(0, .ref (ad (9 + k)))] := hl
  refine lv_aload_n hx hb dX0_settleIntent_0 rfl (lv_at hl 0 rfl) ?_
  refine hc_g_key G (in_X0_settleIntent_X0) hP (hk) 6 (by decide) (by decide +kernel) (.ref (ad (57 + u))) rfl (hc_hdS hh) dX0_settleIntent_1 ?_
  refine lv_ifnull hx hb dX0_settleIntent_4 ?_
  refine lv_aload_n hx hb dX0_settleIntent_7 rfl (lv_at hl 0 rfl) ?_
  refine hc_g_key G (in_X0_settleIntent_X0) hP (hk) 6 (by decide) (by decide +kernel) (.ref (ad (57 + u))) rfl (hc_hdS hh) dX0_settleIntent_8 ?_
  refine hc_g_txn G (in_X0_settleIntent_X2) hP (hu8) 0 (by decide) (by decide +kernel) (.int (HM.ph (x) (u))) rfl rfl dX0_settleIntent_11 ?_
  refine lv_iconst (v := 2) hx hb dX0_settleIntent_14 (by decide) ?_
  refine lv_icmp_ne (tgt := 33) hx hb dX0_settleIntent_15 (by decide) (fun c_1 => ?_) (fun c_1 => ?_)
  · refine lv_aload_n hx hb dX0_settleIntent_33 rfl (lv_at hl 0 rfl) ?_
    refine lv_null hx hb dX0_settleIntent_34 ?_
    refine hc_p_key ho G (in_X0_settleIntent_X0) hP hS (hk) 6 (by decide) (by decide +kernel) (.null) rfl rfl (.object "HlcStore$Transaction") (by decide +kernel) rfl rfl (Nat.le_of_ble_eq_true rfl) (HM.u_hd (x) (k) (none)) (hc_s_hd (v := none) (hk)) dX0_settleIntent_35 (fun H locs hP hS => ?_)
    exact ct_vret hx hb hr hlocks rfl (by rw [HM.stl, if_neg c_1]; exact hP) hS dX0_settleIntent_38
  · refine lv_aload_n hx hb dX0_settleIntent_18 rfl (lv_at hl 0 rfl) ?_
    refine lv_aload_n hx hb dX0_settleIntent_19 rfl (lv_at hl 0 rfl) ?_
    refine hc_g_key G (in_X0_settleIntent_X0) hP (hk) 6 (by decide) (by decide +kernel) (.ref (ad (57 + u))) rfl (hc_hdS hh) dX0_settleIntent_20 ?_
    refine hc_g_txn G (in_X0_settleIntent_X2) hP (hu8) 5 (by decide) (by decide +kernel) (.long (HM.ws (x) (u))) rfl rfl dX0_settleIntent_23 ?_
    refine lv_aload_n hx hb dX0_settleIntent_26 rfl (lv_at hl 0 rfl) ?_
    refine hc_g_key G (in_X0_settleIntent_X0) hP (hk) 7 (by decide) (by decide +kernel) (.int (HM.pl (x) (k))) rfl rfl dX0_settleIntent_27 ?_
    refine hs_callV (n := 2) (As := [.long (HM.ws (x) (u)), .int (HM.pl (x) (k))]) (rest := []) G hml (c_addVersion l D cy ad ho (x) (hk) (hlt) (HM.ws (x) (u)) (HM.pl (x) (k))) gX0_settleIntent_X0_addVersion rfl rfl rfl (by decide +kernel) ⟨Nat.le_of_ble_eq_true rfl, Nat.le_of_ble_eq_true rfl⟩ (ci := 0) rfl rfl (hc_at_key (hk)) rfl hl.1 (Nat.le_of_ble_eq_true rfl) ⟨Nat.zero_le _, Nat.zero_le _⟩ hP hS (fun _ h => h) rfl dX0_settleIntent_30 (fun H locs hP hS _ _ => ?_)
    refine lv_aload_n hx hb dX0_settleIntent_33 rfl (lv_at hl 0 rfl) ?_
    refine lv_null hx hb dX0_settleIntent_34 ?_
    refine hc_p_key ho G (in_X0_settleIntent_X0) hP hS (hk) 6 (by decide) (by decide +kernel) (.null) rfl rfl (.object "HlcStore$Transaction") (by decide +kernel) rfl rfl (Nat.le_of_ble_eq_true rfl) (HM.u_hd (HM.add (x) (k) (HM.ws (x) (u)) (HM.pl (x) (k))) (k) (none)) (hc_s_hd (v := none) (hk)) dX0_settleIntent_35 (fun H locs hP hS => ?_)
    exact ct_vret hx hb hr hlocks rfl (by rw [HM.stl, if_pos c_1]; exact hP) hS dX0_settleIntent_38
theorem in_X3_nodeAt_X3 : ∀ w ∈ u_ws RX3 TX3 6, w ∈ wsX3_nodeAt := by decide +kernel
set_option maxHeartbeats 4000000 in
set_option maxRecDepth 100000 in
/-- nodeAt, in range -/
theorem c_nodeAt (l : Launch) (D : va_G) (cy : Nat → ClassId) (ad : Nat → Nat) (ho : hc_ok ad) (x : HM) {i : Nat} (hi : i < 4) : Ct l yX3_nodeAt wsX3_nodeAt ({ frames := 0, cells := 0, slots := 0, locals := 0 }) D cy (hc_A ad) [.ref (ad 0), .int (nI i)] (hc_mem ad cy (x)) (some (.ref (ad (5 + i)))) (hc_mem ad cy (x)) := by
  refine ct_of (cc := cX3_nodeAt) (maxL := 2) (ret := (some (.object "HlcStore$Node"))) rfl (by decide) (Nat.le_of_ble_eq_true rfl) ?_
  intro p e s m below meth c ls G hx hb hml hr hlocks hP hS hl
  have hl : lv_has ls 2 [(0, .ref (ad 0)), (1, .int (nI i))] := hl
  refine lv_iload_n hx hb dX3_nodeAt_0 rfl (lv_at hl 1 rfl) ?_
  refine lv_if_lt (tgt := 9) hx hb dX3_nodeAt_1 (by decide) (fun c_1 => ?_) (fun c_1 => ?_)
  · exact absurd c_1 (nI_pos (by omega))
  · refine lv_iload_n hx hb dX3_nodeAt_4 rfl (lv_at hl 1 rfl) ?_
    refine lv_iconst (v := 4) hx hb dX3_nodeAt_5 (by decide) ?_
    refine lv_icmp_lt (tgt := 13) hx hb dX3_nodeAt_6 (by decide) (fun c_2 => ?_) (fun c_2 => ?_)
    · refine lv_aload_n hx hb dX3_nodeAt_13 rfl (lv_at hl 0 rfl) ?_
      refine hc_g_store G (in_X3_nodeAt_X3) hP 0 (by decide) (by decide +kernel) (.ref (ad 1)) rfl rfl dX3_nodeAt_14 ?_
      refine lv_iload_n hx hb dX3_nodeAt_17 rfl (lv_at hl 1 rfl) ?_
      refine va_aldq hx hb G.2.2.2.2.1 hP 1 3 (hc_at_top (by decide)) rfl (hs_in (k := i) (n := 4) (nI_clamp (by omega)) (hs_inN hi (by decide))) dX3_nodeAt_18 ?_
      rw [show Int32.toNatClampNeg (nI i) = i from nI_clamp (by omega)]
      show W _ _ _ _ _ _ _ _ _ _ _ _ _ _ _ (F0 m (18 + 1) ls (.ref (ad (5 + i)) :: []))
      exact ct_aret hx hb hr hlocks (Or.inr ⟨_, rfl⟩) rfl hP hS dX3_nodeAt_19
    · exact absurd (show nI i < 4 from nI_lt (b := 4) hi (by decide)) c_2
set_option maxHeartbeats 4000000 in
set_option maxRecDepth 100000 in
/-- nodeAt, out of range -/
theorem c_nodeAt_no (l : Launch) (D : va_G) (cy : Nat → ClassId) (ad : Nat → Nat) (ho : hc_ok ad) (x : HM) (z : Int32) (hz : z < 0 ∨ 4 ≤ z) : Ct l yX3_nodeAt wsX3_nodeAt ({ frames := 0, cells := 0, slots := 0, locals := 0 }) D cy (hc_A ad) [.ref (ad 0), .int (z)] (hc_mem ad cy (x)) (some .null) (hc_mem ad cy (x)) := by
  refine ct_of (cc := cX3_nodeAt) (maxL := 2) (ret := (some (.object "HlcStore$Node"))) rfl (by decide) (Nat.le_of_ble_eq_true rfl) ?_
  intro p e s m below meth c ls G hx hb hml hr hlocks hP hS hl
  have hl : lv_has ls 2 [(0, .ref (ad 0)), (1, .int (z))] := hl
  refine lv_iload_n hx hb dX3_nodeAt_0 rfl (lv_at hl 1 rfl) ?_
  refine lv_if_lt (tgt := 9) hx hb dX3_nodeAt_1 (by decide) (fun c_1 => ?_) (fun c_1 => ?_)
  · refine lv_null hx hb dX3_nodeAt_9 ?_
    refine lv_goto (tgt := 19) hx hb dX3_nodeAt_10 (by decide) ?_
    exact ct_aret hx hb hr hlocks (Or.inl rfl) rfl hP hS dX3_nodeAt_19
  · refine lv_iload_n hx hb dX3_nodeAt_4 rfl (lv_at hl 1 rfl) ?_
    refine lv_iconst (v := 4) hx hb dX3_nodeAt_5 (by decide) ?_
    refine lv_icmp_lt (tgt := 13) hx hb dX3_nodeAt_6 (by decide) (fun c_2 => ?_) (fun c_2 => ?_)
    · exact absurd (hz.resolve_left c_1) (Int32.not_le.mpr c_2)
    · refine lv_null hx hb dX3_nodeAt_9 ?_
      refine lv_goto (tgt := 19) hx hb dX3_nodeAt_10 (by decide) ?_
      exact ct_aret hx hb hr hlocks (Or.inl rfl) rfl hP hS dX3_nodeAt_19
theorem in_X3_keyAt_X3 : ∀ w ∈ u_ws RX3 TX3 6, w ∈ wsX3_keyAt := by decide +kernel
set_option maxHeartbeats 4000000 in
set_option maxRecDepth 100000 in
/-- keyAt, in range -/
theorem c_keyAt (l : Launch) (D : va_G) (cy : Nat → ClassId) (ad : Nat → Nat) (ho : hc_ok ad) (x : HM) {k : Nat} (hk : k < 16) : Ct l yX3_keyAt wsX3_keyAt ({ frames := 0, cells := 0, slots := 0, locals := 0 }) D cy (hc_A ad) [.ref (ad 0), .int (nI k)] (hc_mem ad cy (x)) (some (.ref (ad (9 + k)))) (hc_mem ad cy (x)) := by
  refine ct_of (cc := cX3_keyAt) (maxL := 2) (ret := (some (.object "HlcStore$Key"))) rfl (by decide) (Nat.le_of_ble_eq_true rfl) ?_
  intro p e s m below meth c ls G hx hb hml hr hlocks hP hS hl
  have hl : lv_has ls 2 [(0, .ref (ad 0)), (1, .int (nI k))] := hl
  refine lv_iload_n hx hb dX3_keyAt_0 rfl (lv_at hl 1 rfl) ?_
  refine lv_if_lt (tgt := 10) hx hb dX3_keyAt_1 (by decide) (fun c_1 => ?_) (fun c_1 => ?_)
  · exact absurd c_1 (nI_pos (by omega))
  · refine lv_iload_n hx hb dX3_keyAt_4 rfl (lv_at hl 1 rfl) ?_
    refine lv_bipush (v := 16) hx hb dX3_keyAt_5 (by decide) ?_
    refine lv_icmp_lt (tgt := 14) hx hb dX3_keyAt_7 (by decide) (fun c_2 => ?_) (fun c_2 => ?_)
    · refine lv_aload_n hx hb dX3_keyAt_14 rfl (lv_at hl 0 rfl) ?_
      refine hc_g_store G (in_X3_keyAt_X3) hP 1 (by decide) (by decide +kernel) (.ref (ad 2)) rfl rfl dX3_keyAt_15 ?_
      refine lv_iload_n hx hb dX3_keyAt_18 rfl (lv_at hl 1 rfl) ?_
      refine va_aldq hx hb G.2.2.2.2.1 hP 2 4 (hc_at_top (by decide)) rfl (hs_in (k := k) (n := 16) (nI_clamp (by omega)) (hs_inN hk (by decide))) dX3_keyAt_19 ?_
      rw [show Int32.toNatClampNeg (nI k) = k from nI_clamp (by omega)]
      show W _ _ _ _ _ _ _ _ _ _ _ _ _ _ _ (F0 m (19 + 1) ls (.ref (ad (9 + k)) :: []))
      exact ct_aret hx hb hr hlocks (Or.inr ⟨_, rfl⟩) rfl hP hS dX3_keyAt_20
    · exact absurd (show nI k < 16 from nI_lt (b := 16) hk (by decide)) c_2
set_option maxHeartbeats 4000000 in
set_option maxRecDepth 100000 in
/-- keyAt, out of range -/
theorem c_keyAt_no (l : Launch) (D : va_G) (cy : Nat → ClassId) (ad : Nat → Nat) (ho : hc_ok ad) (x : HM) (z : Int32) (hz : z < 0 ∨ 16 ≤ z) : Ct l yX3_keyAt wsX3_keyAt ({ frames := 0, cells := 0, slots := 0, locals := 0 }) D cy (hc_A ad) [.ref (ad 0), .int (z)] (hc_mem ad cy (x)) (some .null) (hc_mem ad cy (x)) := by
  refine ct_of (cc := cX3_keyAt) (maxL := 2) (ret := (some (.object "HlcStore$Key"))) rfl (by decide) (Nat.le_of_ble_eq_true rfl) ?_
  intro p e s m below meth c ls G hx hb hml hr hlocks hP hS hl
  have hl : lv_has ls 2 [(0, .ref (ad 0)), (1, .int (z))] := hl
  refine lv_iload_n hx hb dX3_keyAt_0 rfl (lv_at hl 1 rfl) ?_
  refine lv_if_lt (tgt := 10) hx hb dX3_keyAt_1 (by decide) (fun c_1 => ?_) (fun c_1 => ?_)
  · refine lv_null hx hb dX3_keyAt_10 ?_
    refine lv_goto (tgt := 20) hx hb dX3_keyAt_11 (by decide) ?_
    exact ct_aret hx hb hr hlocks (Or.inl rfl) rfl hP hS dX3_keyAt_20
  · refine lv_iload_n hx hb dX3_keyAt_4 rfl (lv_at hl 1 rfl) ?_
    refine lv_bipush (v := 16) hx hb dX3_keyAt_5 (by decide) ?_
    refine lv_icmp_lt (tgt := 14) hx hb dX3_keyAt_7 (by decide) (fun c_2 => ?_) (fun c_2 => ?_)
    · exact absurd (hz.resolve_left c_1) (Int32.not_le.mpr c_2)
    · refine lv_null hx hb dX3_keyAt_10 ?_
      refine lv_goto (tgt := 20) hx hb dX3_keyAt_11 (by decide) ?_
      exact ct_aret hx hb hr hlocks (Or.inl rfl) rfl hP hS dX3_keyAt_20
theorem in_X3_transactionAt_X3 : ∀ w ∈ u_ws RX3 TX3 6, w ∈ wsX3_transactionAt := by decide +kernel
set_option maxHeartbeats 4000000 in
set_option maxRecDepth 100000 in
/-- transactionAt, in range -/
theorem c_transactionAt (l : Launch) (D : va_G) (cy : Nat → ClassId) (ad : Nat → Nat) (ho : hc_ok ad) (x : HM) {t : Nat} (ht : t < 8) : Ct l yX3_transactionAt wsX3_transactionAt ({ frames := 0, cells := 0, slots := 0, locals := 0 }) D cy (hc_A ad) [.ref (ad 0), .int (nI t)] (hc_mem ad cy (x)) (some (.ref (ad (57 + t)))) (hc_mem ad cy (x)) := by
  refine ct_of (cc := cX3_transactionAt) (maxL := 2) (ret := (some (.object "HlcStore$Transaction"))) rfl (by decide) (Nat.le_of_ble_eq_true rfl) ?_
  intro p e s m below meth c ls G hx hb hml hr hlocks hP hS hl
  have hl : lv_has ls 2 [(0, .ref (ad 0)), (1, .int (nI t))] := hl
  refine lv_iload_n hx hb dX3_transactionAt_0 rfl (lv_at hl 1 rfl) ?_
  refine lv_if_lt (tgt := 10) hx hb dX3_transactionAt_1 (by decide) (fun c_1 => ?_) (fun c_1 => ?_)
  · exact absurd c_1 (nI_pos (by omega))
  · refine lv_iload_n hx hb dX3_transactionAt_4 rfl (lv_at hl 1 rfl) ?_
    refine lv_bipush (v := 8) hx hb dX3_transactionAt_5 (by decide) ?_
    refine lv_icmp_lt (tgt := 14) hx hb dX3_transactionAt_7 (by decide) (fun c_2 => ?_) (fun c_2 => ?_)
    · refine lv_aload_n hx hb dX3_transactionAt_14 rfl (lv_at hl 0 rfl) ?_
      refine hc_g_store G (in_X3_transactionAt_X3) hP 2 (by decide) (by decide +kernel) (.ref (ad 3)) rfl rfl dX3_transactionAt_15 ?_
      refine lv_iload_n hx hb dX3_transactionAt_18 rfl (lv_at hl 1 rfl) ?_
      refine va_aldq hx hb G.2.2.2.2.1 hP 3 5 (hc_at_top (by decide)) rfl (hs_in (k := t) (n := 8) (nI_clamp (by omega)) (hs_inN ht (by decide))) dX3_transactionAt_19 ?_
      rw [show Int32.toNatClampNeg (nI t) = t from nI_clamp (by omega)]
      show W _ _ _ _ _ _ _ _ _ _ _ _ _ _ _ (F0 m (19 + 1) ls (.ref (ad (57 + t)) :: []))
      exact ct_aret hx hb hr hlocks (Or.inr ⟨_, rfl⟩) rfl hP hS dX3_transactionAt_20
    · exact absurd (show nI t < 8 from nI_lt (b := 8) ht (by decide)) c_2
set_option maxHeartbeats 4000000 in
set_option maxRecDepth 100000 in
/-- transactionAt, out of range -/
theorem c_transactionAt_no (l : Launch) (D : va_G) (cy : Nat → ClassId) (ad : Nat → Nat) (ho : hc_ok ad) (x : HM) (z : Int32) (hz : z < 0 ∨ 8 ≤ z) : Ct l yX3_transactionAt wsX3_transactionAt ({ frames := 0, cells := 0, slots := 0, locals := 0 }) D cy (hc_A ad) [.ref (ad 0), .int (z)] (hc_mem ad cy (x)) (some .null) (hc_mem ad cy (x)) := by
  refine ct_of (cc := cX3_transactionAt) (maxL := 2) (ret := (some (.object "HlcStore$Transaction"))) rfl (by decide) (Nat.le_of_ble_eq_true rfl) ?_
  intro p e s m below meth c ls G hx hb hml hr hlocks hP hS hl
  have hl : lv_has ls 2 [(0, .ref (ad 0)), (1, .int (z))] := hl
  refine lv_iload_n hx hb dX3_transactionAt_0 rfl (lv_at hl 1 rfl) ?_
  refine lv_if_lt (tgt := 10) hx hb dX3_transactionAt_1 (by decide) (fun c_1 => ?_) (fun c_1 => ?_)
  · refine lv_null hx hb dX3_transactionAt_10 ?_
    refine lv_goto (tgt := 20) hx hb dX3_transactionAt_11 (by decide) ?_
    exact ct_aret hx hb hr hlocks (Or.inl rfl) rfl hP hS dX3_transactionAt_20
  · refine lv_iload_n hx hb dX3_transactionAt_4 rfl (lv_at hl 1 rfl) ?_
    refine lv_bipush (v := 8) hx hb dX3_transactionAt_5 (by decide) ?_
    refine lv_icmp_lt (tgt := 14) hx hb dX3_transactionAt_7 (by decide) (fun c_2 => ?_) (fun c_2 => ?_)
    · exact absurd (hz.resolve_left c_1) (Int32.not_le.mpr c_2)
    · refine lv_null hx hb dX3_transactionAt_10 ?_
      refine lv_goto (tgt := 20) hx hb dX3_transactionAt_11 (by decide) ?_
      exact ct_aret hx hb hr hlocks (Or.inl rfl) rfl hP hS dX3_transactionAt_20
theorem in_X3_leastFreeSlot_X3 : ∀ w ∈ u_ws RX3 TX3 6, w ∈ wsX3_leastFreeSlot := by decide +kernel
theorem in_X3_leastFreeSlot_X2 : ∀ w ∈ u_ws RX2 TX2 9, w ∈ wsX3_leastFreeSlot := by decide +kernel
set_option maxHeartbeats 4000000 in
set_option maxRecDepth 100000 in
/-- leastFreeSlot -/
theorem c_leastFree (l : Launch) (D : va_G) (cy : Nat → ClassId) (ad : Nat → Nat) (ho : hc_ok ad) (x : HM) : Ct l yX3_leastFreeSlot wsX3_leastFreeSlot ({ frames := 0, cells := 0, slots := 0, locals := 0 }) D cy (hc_A ad) [.ref (ad 0)] (hc_mem ad cy (x)) (some (.int (hs_ix (hs_fr x.ph 8 0)))) (hc_mem ad cy (x)) := by
  refine ct_of (cc := cX3_leastFreeSlot) (maxL := 2) (ret := (some .int)) rfl (by decide) (Nat.le_of_ble_eq_true rfl) ?_
  intro p e s m below meth c ls G hx hb hml hr hlocks hP hS hl
  have hl : lv_has ls 2 [(0, .ref (ad 0))] := hl
  have loop : ∀ (n i : Nat), i + n = 8 → hs_fr x.ph n i = hs_fr x.ph 8 0 → ∀ ls : Array Slot, lv_has ls 2 [(1, .int (nI i)), (0, .ref (ad 0))] → W p l e ({ frames := 0, cells := 0, slots := 0, locals := 0 }) s m [.ref (ad 0)].toArray below meth c s.heap [] 0 0 (MQ below (hs_Post D (some (.int (hs_ix (hs_fr x.ph 8 0)))) (hc_mem ad cy x) (hc_A ad)) [.ref (ad 0)].toArray s 0 0 (hc_A ad)) (F0 m 2 ls []) := by
    intro n
    induction n with
    | zero =>
      intro i hi he ls hl
      refine lv_iload_n hx hb dX3_leastFreeSlot_2 rfl (lv_at hl 0 rfl) ?_
      refine lv_bipush (v := 8) hx hb dX3_leastFreeSlot_3 (by decide) ?_
      refine lv_icmp_ge (tgt := 28) hx hb dX3_leastFreeSlot_5 (by decide) (fun c_1 => ?_) (fun c_1 => ?_)
      · refine lv_iconst (v := (-1)) hx hb dX3_leastFreeSlot_28 (by decide) ?_
        exact ct_iret hx hb hr hlocks (by rw [← he]; rfl) hP hS dX3_leastFreeSlot_29
      · exact absurd (show (8 : Int32) ≤ nI i from nI_le (a := 8) (by omega) (by omega)) c_1
    | succ n ih =>
      intro i hi he ls hl
      refine lv_iload_n hx hb dX3_leastFreeSlot_2 rfl (lv_at hl 0 rfl) ?_
      refine lv_bipush (v := 8) hx hb dX3_leastFreeSlot_3 (by decide) ?_
      refine lv_icmp_ge (tgt := 28) hx hb dX3_leastFreeSlot_5 (by decide) (fun c_1 => ?_) (fun c_1 => ?_)
      · exact absurd c_1 (nI_ge (b := 8) (by omega) (by decide))
      · refine lv_aload_n hx hb dX3_leastFreeSlot_8 rfl (lv_at hl 1 rfl) ?_
        refine hc_g_store G (in_X3_leastFreeSlot_X3) hP 2 (by decide) (by decide +kernel) (.ref (ad 3)) rfl rfl dX3_leastFreeSlot_9 ?_
        refine lv_iload_n hx hb dX3_leastFreeSlot_12 rfl (lv_at hl 0 rfl) ?_
        refine va_aldq hx hb G.2.2.2.2.1 hP 3 5 (hc_at_top (by decide)) rfl (hs_in (k := i) (n := 8) (nI_clamp (by omega)) (hs_inN (by omega) (by decide))) dX3_leastFreeSlot_13 ?_
        rw [show Int32.toNatClampNeg (nI i) = i from nI_clamp (by omega)]
        show W _ _ _ _ _ _ _ _ _ _ _ _ _ _ _ (F0 m (13 + 1) ls (.ref (ad (57 + i)) :: []))
        refine hc_g_txn G (in_X3_leastFreeSlot_X2) hP (show i < 8 by omega) 0 (by decide) (by decide +kernel) (.int (HM.ph (x) (i))) rfl rfl dX3_leastFreeSlot_14 ?_
        refine lv_if_ne (tgt := 22) hx hb dX3_leastFreeSlot_17 (by decide) (fun c_2 => ?_) (fun c_2 => ?_)
        · refine lv_iinc (v := nI (i + 1)) (lv' := [(1, .int (nI (i + 1))), (0, .ref (ad 0))]) hx hb dX3_leastFreeSlot_22 hl (k := 0) rfl (nI_1 i) (by decide) rfl (fun ls hl => ?_)
          refine lv_goto (tgt := 2) hx hb dX3_leastFreeSlot_25 (by decide) ?_
          exact ih (i + 1) (by omega) (by rw [← he, hs_fr_succ, if_neg c_2]) ls (lv_sub hl [0, 1] rfl)
        · refine lv_iload_n hx hb dX3_leastFreeSlot_20 rfl (lv_at hl 0 rfl) ?_
          exact ct_iret hx hb hr hlocks (by rw [← he, hs_fr_succ, if_pos c_2]; rfl) hP hS dX3_leastFreeSlot_21
  refine lv_iconst (v := 0) hx hb dX3_leastFreeSlot_0 (by decide) ?_
  refine lv_istore_n (lv' := [(1, .int (0)), (0, .ref (ad 0))]) hx hb dX3_leastFreeSlot_1 rfl hl (by decide) rfl (fun ls hl => ?_)
  exact loop 8 0 rfl rfl ls (lv_sub hl [0, 1] rfl)
theorem in_X3_runsAhead_X3 : ∀ w ∈ u_ws RX3 TX3 6, w ∈ wsX3_runsAhead := by decide +kernel
theorem in_X3_runsAhead_X1 : ∀ w ∈ u_ws RX1 TX1 2, w ∈ wsX3_runsAhead := by decide +kernel
set_option maxHeartbeats 4000000 in
set_option maxRecDepth 100000 in
/-- runsAhead -/
theorem c_runsAhead (l : Launch) (D : va_G) (cy : Nat → ClassId) (ad : Nat → Nat) (ho : hc_ok ad) (x : HM) {i : Nat} (hi : i < 4) (r0 : Int32) : Ct l yX3_runsAhead wsX3_runsAhead ({ frames := 0, cells := 0, slots := 0, locals := 0 }) D cy (hc_A ad) [.ref (ad 0), .ref (ad (5 + i)), .int (r0)] (hc_mem ad cy (x)) (some (.int (if hs_ra x.rd i r0 4 0 then 1 else 0))) (hc_mem ad cy (x)) := by
  refine ct_of (cc := cX3_runsAhead) (maxL := 7) (ret := (some .boolean)) rfl (by decide) (Nat.le_of_ble_eq_true rfl) ?_
  intro p e s m below meth c ls G hx hb hml hr hlocks hP hS hl
  have hl : lv_has ls 7 [(0, .ref (ad 0)), (1, .ref (ad (5 + i))), (2, .int (r0))] := hl
  have loop : ∀ (n j : Nat), j + n = 4 → hs_ra x.rd i r0 n j = hs_ra x.rd i r0 4 0 → ∀ ls : Array Slot, lv_has ls 7 [(5, .int (nI j)), (4, .int (4)), (3, .ref (ad 1)), (0, .ref (ad 0)), (1, .ref (ad (5 + i))), (2, .int (r0))] → W p l e ({ frames := 0, cells := 0, slots := 0, locals := 0 }) s m [.ref (ad 0), .ref (ad (5 + i)), .int r0].toArray below meth c s.heap [] 0 0 (MQ below (hs_Post D (some (.int (if hs_ra x.rd i r0 4 0 then 1 else 0))) (hc_mem ad cy x) (hc_A ad)) [.ref (ad 0), .ref (ad (5 + i)), .int r0].toArray s 0 0 (hc_A ad)) (F0 m 12 ls []) := by
    intro n
    induction n with
    | zero =>
      intro j hj he ls hl
      refine lv_iload hx hb dX3_runsAhead_12 (lv_at hl 0 rfl) ?_
      refine lv_iload hx hb dX3_runsAhead_14 (lv_at hl 1 rfl) ?_
      refine lv_icmp_ge (tgt := 51) hx hb dX3_runsAhead_16 (by decide) (fun c_1 => ?_) (fun c_1 => ?_)
      · refine lv_iconst (v := 0) hx hb dX3_runsAhead_51 (by decide) ?_
        exact ct_zret hx hb hr hlocks (by decide) (by rw [← he]; rfl) hP hS dX3_runsAhead_52
      · exact absurd (show (4 : Int32) ≤ nI j from nI_le (a := 4) (by omega) (by omega)) c_1
    | succ n ih =>
      intro j hj he ls hl
      refine lv_iload hx hb dX3_runsAhead_12 (lv_at hl 0 rfl) ?_
      refine lv_iload hx hb dX3_runsAhead_14 (lv_at hl 1 rfl) ?_
      refine lv_icmp_ge (tgt := 51) hx hb dX3_runsAhead_16 (by decide) (fun c_1 => ?_) (fun c_1 => ?_)
      · exact absurd c_1 (nI_ge (b := 4) (by omega) (by decide))
      · refine lv_aload_n hx hb dX3_runsAhead_19 rfl (lv_at hl 2 rfl) ?_
        refine lv_iload hx hb dX3_runsAhead_20 (lv_at hl 0 rfl) ?_
        refine va_aldq hx hb G.2.2.2.2.1 hP 1 3 (hc_at_top (by decide)) rfl (hs_in (k := j) (n := 4) (nI_clamp (by omega)) (hs_inN (by omega) (by decide))) dX3_runsAhead_22 ?_
        rw [show Int32.toNatClampNeg (nI j) = j from nI_clamp (by omega)]
        show W _ _ _ _ _ _ _ _ _ _ _ _ _ _ _ (F0 m (22 + 1) ls (.ref (ad (5 + j)) :: []))
        refine lv_astore (lv' := [(6, .ref (ad (5 + j))), (5, .int (nI j)), (4, .int (4)), (3, .ref (ad 1)), (0, .ref (ad 0)), (1, .ref (ad (5 + i))), (2, .int (r0))]) hx hb dX3_runsAhead_23 hl (by decide) rfl (fun ls hl => ?_)
        refine lv_aload hx hb dX3_runsAhead_25 (lv_at hl 0 rfl) ?_
        refine lv_aload_n hx hb dX3_runsAhead_27 rfl (lv_at hl 5 rfl) ?_
        refine lv_acmp_eq (rx := some (ad (5 + j))) (ry := some (ad (5 + i))) (tgt := 45) hx hb dX3_runsAhead_28 (by decide) (fun c_2 => ?_) (fun c_2 => ?_)
        · refine lv_iinc (v := nI (j + 1)) (lv' := [(5, .int (nI (j + 1))), (6, .ref (ad (5 + j))), (4, .int (4)), (3, .ref (ad 1)), (0, .ref (ad 0)), (1, .ref (ad (5 + i))), (2, .int (r0))]) hx hb dX3_runsAhead_45 hl (k := 1) rfl (nI_1 j) (by decide) rfl (fun ls hl => ?_)
          refine lv_goto (tgt := 12) hx hb dX3_runsAhead_48 (by decide) ?_
          exact ih (j + 1) (by omega) (by rw [← he, hs_ra_succ, if_neg (fun q => q.1 ((hc_nodeI ho (by omega) hi).mp c_2))]) ls (lv_sub hl [0, 2, 3, 4, 5, 6] rfl)
        · refine lv_iload_n hx hb dX3_runsAhead_31 rfl (lv_at hl 6 rfl) ?_
          refine lv_aload hx hb dX3_runsAhead_32 (lv_at hl 0 rfl) ?_
          refine hc_g_noden G (in_X3_runsAhead_X1) hP (show j < 4 by omega) 0 (by decide) (by decide +kernel) (.int (HM.rd (x) (j))) rfl rfl dX3_runsAhead_34 ?_
          refine lv_isub hx hb dX3_runsAhead_37 ?_
          refine lv_bipush (v := 10) hx hb dX3_runsAhead_38 (by decide) ?_
          refine lv_icmp_le (tgt := 45) hx hb dX3_runsAhead_40 (by decide) (fun c_3 => ?_) (fun c_3 => ?_)
          · refine lv_iinc (v := nI (j + 1)) (lv' := [(5, .int (nI (j + 1))), (6, .ref (ad (5 + j))), (4, .int (4)), (3, .ref (ad 1)), (0, .ref (ad 0)), (1, .ref (ad (5 + i))), (2, .int (r0))]) hx hb dX3_runsAhead_45 hl (k := 1) rfl (nI_1 j) (by decide) rfl (fun ls hl => ?_)
            refine lv_goto (tgt := 12) hx hb dX3_runsAhead_48 (by decide) ?_
            exact ih (j + 1) (by omega) (by rw [← he, hs_ra_succ, if_neg (fun q => Int32.not_le.mpr q.2 c_3)]) ls (lv_sub hl [0, 2, 3, 4, 5, 6] rfl)
          · refine lv_iconst (v := 1) hx hb dX3_runsAhead_43 (by decide) ?_
            exact ct_zret hx hb hr hlocks (by decide) (by rw [show hs_ra x.rd i r0 4 0 = true from by rw [← he, hs_ra_succ]; exact if_pos ⟨fun q => c_2 ((hc_nodeI ho (by omega) hi).mpr q), Int32.not_le.mp c_3⟩]; rfl) hP hS dX3_runsAhead_44
  refine lv_aload_n hx hb dX3_runsAhead_0 rfl (lv_at hl 0 rfl) ?_
  refine hc_g_store G (in_X3_runsAhead_X3) hP 0 (by decide) (by decide +kernel) (.ref (ad 1)) rfl rfl dX3_runsAhead_1 ?_
  refine lv_astore_n (lv' := [(3, .ref (ad 1)), (0, .ref (ad 0)), (1, .ref (ad (5 + i))), (2, .int (r0))]) hx hb dX3_runsAhead_4 rfl hl (by decide) rfl (fun ls hl => ?_)
  refine lv_aload_n hx hb dX3_runsAhead_5 rfl (lv_at hl 0 rfl) ?_
  refine va_alen hx hb G.2.2.2.2.1 hP 1 3 (hc_at_top (by decide)) rfl (v := 4) rfl dX3_runsAhead_6 ?_
  refine lv_istore (lv' := [(4, .int (4)), (3, .ref (ad 1)), (0, .ref (ad 0)), (1, .ref (ad (5 + i))), (2, .int (r0))]) hx hb dX3_runsAhead_7 hl (by decide) rfl (fun ls hl => ?_)
  refine lv_iconst (v := 0) hx hb dX3_runsAhead_9 (by decide) ?_
  refine lv_istore (lv' := [(5, .int (0)), (4, .int (4)), (3, .ref (ad 1)), (0, .ref (ad 0)), (1, .ref (ad (5 + i))), (2, .int (r0))]) hx hb dX3_runsAhead_10 hl (by decide) rfl (fun ls hl => ?_)
  exact loop 4 0 rfl rfl ls (lv_sub hl [0, 1, 2, 3, 4, 5] rfl)
theorem in_X3_logCommit_X3 : ∀ w ∈ u_ws RX3 TX3 6, w ∈ wsX3_logCommit := by decide +kernel
set_option maxHeartbeats 4000000 in
set_option maxRecDepth 100000 in
/-- logCommit -/
theorem c_logCommit (l : Launch) (D : va_G) (cy : Nat → ClassId) (ad : Nat → Nat) (ho : hc_ok ad) (x : HM) (hlt : x.cm.length < 256) (s0 : Int64) : Ct l yX3_logCommit wsX3_logCommit ({ frames := 0, cells := 0, slots := 0, locals := 0 }) D cy (hc_A ad) [.ref (ad 0), .long (s0)] (hc_mem ad cy (x)) none (hc_mem ad cy (x.s_cm (x.cm ++ [s0]))) := by
  refine ct_of (cc := cX3_logCommit) (maxL := 3) (ret := none) rfl (by decide) (Nat.le_of_ble_eq_true rfl) ?_
  intro p e s m below meth c ls G hx hb hml hr hlocks hP hS hl
  have hl : lv_has ls 3 [(0, .ref (ad 0)), (1, .long (s0))] := hl
  refine lv_aload_n hx hb dX3_logCommit_0 rfl (lv_at hl 0 rfl) ?_
  refine hc_g_store G (in_X3_logCommit_X3) hP 4 (by decide) (by decide +kernel) (.int (nI (HM.cm (x)).length)) rfl rfl dX3_logCommit_1 ?_
  refine lv_sipush (v := 256) hx hb dX3_logCommit_4 (by decide) ?_
  refine lv_icmp_ge (tgt := 30) hx hb dX3_logCommit_7 (by decide) (fun c_1 => ?_) (fun c_1 => ?_)
  · exact absurd c_1 (nI_ge (b := 256) hlt (by decide))
  · refine lv_aload_n hx hb dX3_logCommit_10 rfl (lv_at hl 0 rfl) ?_
    refine hc_g_store G (in_X3_logCommit_X3) hP 3 (by decide) (by decide +kernel) (.ref (ad 4)) rfl rfl dX3_logCommit_11 ?_
    refine lv_aload_n hx hb dX3_logCommit_14 rfl (lv_at hl 0 rfl) ?_
    refine hc_g_store G (in_X3_logCommit_X3) hP 4 (by decide) (by decide +kernel) (.int (nI (HM.cm (x)).length)) rfl rfl dX3_logCommit_15 ?_
    refine lv_lload_n hx hb dX3_logCommit_18 rfl (lv_at hl 1 rfl) ?_
    refine va_last hx hb G.2.2.2.2.1 hP (hc_D ho cy x) hS 4 1 (hc_at_top (by decide)) rfl (hs_in (k := x.cm.length) (n := 256) (nI_clamp (by omega)) (hs_inN hlt (by decide))) dX3_logCommit_19 (fun H locs hP hD hS => ?_)
    rw [show Int32.toNatClampNeg (nI (HM.cm x).length) = x.cm.length from nI_clamp (by omega)] at hP hD
    refine lv_aload_n hx hb dX3_logCommit_20 rfl (lv_at hl 0 rfl) ?_
    refine lv_dup hx hb dX3_logCommit_21 rfl ?_
    refine va_get (D := D) (ci := 3) (v := .int (nI (HM.cm (x)).length)) (C := RX3) (T := TX3) (N := 6) hx hb G.2.2.1 in_X3_logCommit_X3 G.2.2.2.1 G.2.2.2.2.1 hP 0 (by rw [List.getElem?_set_ne (by omega)]; exact hc_at_top (by decide)) rfl 4 (by decide) (G.2.2.1 (.fieldLink RX3 140 "HlcStore" (TX3 4).2.1 (TX3 4).2.2.1) (by decide +kernel)) (fun _ h9 => h9) rfl dX3_logCommit_22 ?_
    refine lv_iconst (v := 1) hx hb dX3_logCommit_25 (by decide) ?_
    refine lv_iadd hx hb dX3_logCommit_26 ?_
    rw [nI_1]
    refine va_put (D := D) (ci := 3) (v := .int (nI (x.cm.length + 1))) (ty := .int) (C := RX3) (T := TX3) (N := 6) hx hb G.2.2.1 in_X3_logCommit_X3 tyX3 tyX3_ok nmX3 G.2.2.2.1 G.2.2.2.2.1 hP hD hS 0 (by rw [List.getElem?_set_ne (by omega)]; exact hc_at_top (by decide)) rfl 4 (by decide) (G.2.2.1 (.fieldLink RX3 140 "HlcStore" (TX3 4).2.1 (TX3 4).2.2.1) (by decide +kernel)) (fun _ h9 => h9) rfl (by decide +kernel) rfl rfl (Nat.le_of_ble_eq_true rfl) dX3_logCommit_27 (fun H locs hP _ hS => ?_)
    rw [hc_logC] at hP
    exact ct_vret hx hb hr hlocks rfl hP hS dX3_logCommit_30
theorem in_X3_restart_X3 : ∀ w ∈ u_ws RX3 TX3 6, w ∈ wsX3_restart := by decide +kernel
theorem in_X3_restart_X0 : ∀ w ∈ u_ws RX0 TX0 8, w ∈ wsX3_restart := by decide +kernel
set_option maxHeartbeats 4000000 in
set_option maxRecDepth 100000 in
/-- restart -/
theorem c_restart (l : Launch) (D : va_G) (cy : Nat → ClassId) (ad : Nat → Nat) (ho : hc_ok ad) (x : HM) (hhd : ∀ k, k < 16 → ∀ u, x.hd k = some u → u < 8) {t : Nat} (ht : t < 8) (a : Int64) : Ct l yX3_restart wsX3_restart ({ frames := 2, cells := 0, slots := 0, locals := 43 }) D cy (hc_A ad) [.ref (ad 0), .ref (ad (57 + t)), .long (a)] (hc_mem ad cy (x)) none (hc_mem ad cy (x.re t a)) := by
  refine ct_of (cc := cX3_restart) (maxL := 8) (ret := none) rfl (by decide) (Nat.le_of_ble_eq_true rfl) ?_
  intro p e s m below meth c ls G hx hb hml hr hlocks hP hS hl
  have hl : lv_has ls 8 [(0, .ref (ad 0)), (1, .ref (ad (57 + t))), (2, .long (a))] := hl
  have loop : ∀ (n i : Nat), i + n = 16 → ∀ (H : Heap) (locs : List Loc), va_P D vwCl (hc_mem ad cy (x.clr t i)) H → va_S (hc_A ad) s.heap H locs → ∀ ls : Array Slot, lv_has ls 8 [(6, .int (nI i)), (5, .int (16)), (4, .ref (ad 2)), (0, .ref (ad 0)), (1, .ref (ad (57 + t))), (2, .long (a))] → W p l e ({ frames := 2, cells := 0, slots := 0, locals := 43 }) s m [.ref (ad 0), .ref (ad (57 + t)), .long a].toArray below meth c H locs 0 0 (MQ below (hs_Post D none (hc_mem ad cy (x.re t a)) (hc_A ad)) [.ref (ad 0), .ref (ad (57 + t)), .long a].toArray s 0 0 (hc_A ad)) (F0 m 14 ls []) := by
    intro n
    induction n with
    | zero =>
      intro i hi H locs hP hS ls hl
      have hi16 : i = 16 := by omega
      subst hi16
      refine lv_iload hx hb dX3_restart_14 (lv_at hl 0 rfl) ?_
      refine lv_iload hx hb dX3_restart_16 (lv_at hl 1 rfl) ?_
      refine lv_icmp_ge (tgt := 49) hx hb dX3_restart_18 (by decide) (fun c_1 => ?_) (fun c_1 => ?_)
      · refine lv_aload_n hx hb dX3_restart_49 rfl (lv_at hl 4 rfl) ?_
        refine lv_lload_n hx hb dX3_restart_50 rfl (lv_at hl 5 rfl) ?_
        refine hs_callN (n := 1) (As := [.long (a)]) (rest := []) G hml (c_moveTo l D cy ad ho (HM.clr x t 16) (ht) (a)) gX3_restart_X2_moveTo_n196 rfl rfl rfl (by decide +kernel) (by decide +kernel) (by decide +kernel) (C := RX2) (by decide +kernel) (by decide +kernel) ⟨Nat.le_of_ble_eq_true rfl, Nat.le_of_ble_eq_true rfl⟩ (ci := 2) rfl rfl (hc_at_tx (ht)) rfl hl.1 (Nat.le_of_ble_eq_true rfl) ⟨Nat.zero_le _, Nat.zero_le _⟩ hP hS (fun _ h => h) rfl dX3_restart_51 (fun H locs hP hS _ _ => ?_)
        exact ct_vret hx hb hr hlocks rfl hP hS dX3_restart_54
      · exact absurd (show (16 : Int32) ≤ nI 16 by decide) c_1
    | succ n ih =>
      intro i hi H locs hP hS ls hl
      refine lv_iload hx hb dX3_restart_14 (lv_at hl 0 rfl) ?_
      refine lv_iload hx hb dX3_restart_16 (lv_at hl 1 rfl) ?_
      refine lv_icmp_ge (tgt := 49) hx hb dX3_restart_18 (by decide) (fun c_1 => ?_) (fun c_1 => ?_)
      · exact absurd c_1 (nI_ge (b := 16) (by omega) (by decide))
      · refine lv_aload hx hb dX3_restart_21 (lv_at hl 2 rfl) ?_
        refine lv_iload hx hb dX3_restart_23 (lv_at hl 0 rfl) ?_
        refine va_aldq hx hb G.2.2.2.2.1 hP 2 4 (hc_at_top (by decide)) rfl (hs_in (k := i) (n := 16) (nI_clamp (by omega)) (hs_inN (by omega) (by decide))) dX3_restart_25 ?_
        rw [show Int32.toNatClampNeg (nI i) = i from nI_clamp (by omega)]
        show W _ _ _ _ _ _ _ _ _ _ _ _ _ _ _ (F0 m (25 + 1) ls (.ref (ad (9 + i)) :: []))
        refine lv_astore (lv' := [(7, .ref (ad (9 + i))), (6, .int (nI i)), (5, .int (16)), (4, .ref (ad 2)), (0, .ref (ad 0)), (1, .ref (ad (57 + t))), (2, .long (a))]) hx hb dX3_restart_26 hl (by decide) rfl (fun ls hl => ?_)
        refine lv_aload hx hb dX3_restart_28 (lv_at hl 0 rfl) ?_
        refine hc_g_keyn G (in_X3_restart_X0) hP (show i < 16 by omega) 6 (by decide) (by decide +kernel) (va_rf ((HM.hd (HM.clr x t i) (i)).map (fun t => ad (57 + t)))) rfl rfl dX3_restart_30 ?_
        refine lv_aload_n hx hb dX3_restart_33 rfl (lv_at hl 5 rfl) ?_
        refine lv_acmp_ne (rx := (HM.hd (HM.clr x t i) (i)).map (fun t => ad (57 + t))) (ry := some (ad (57 + t))) (tgt := 43) hx hb dX3_restart_34 (by decide) (fun c_2 => ?_) (fun c_2 => ?_)
        · have he : ¬ x.hd i = some t := by
            intro q; apply c_2; rw [hs_clr_self]; exact (hc_txI ho ht (hhd i (by omega))).mpr q
          refine lv_iinc (v := nI (i + 1)) (lv' := [(6, .int (nI (i + 1))), (7, .ref (ad (9 + i))), (5, .int (16)), (4, .ref (ad 2)), (0, .ref (ad 0)), (1, .ref (ad (57 + t))), (2, .long (a))]) hx hb dX3_restart_43 hl (k := 1) rfl (nI_1 i) (by decide) rfl (fun ls hl => ?_)
          refine lv_goto (tgt := 14) hx hb dX3_restart_46 (by decide) ?_
          exact ih (i + 1) (by omega) H locs (by rw [← hs_clr_ne x he]; exact hP) hS ls (lv_sub hl [0, 2, 3, 4, 5, 6] rfl)
        · have he : x.hd i = some t := by
            have q := c_2; rw [hs_clr_self] at q; exact (hc_txI ho ht (hhd i (by omega))).mp q
          refine lv_aload hx hb dX3_restart_37 (lv_at hl 0 rfl) ?_
          refine lv_null hx hb dX3_restart_39 ?_
          refine hc_p_keyn ho G (in_X3_restart_X0) hP hS (show i < 16 by omega) 6 (by decide) (by decide +kernel) (.null) rfl rfl (.object "HlcStore$Transaction") (by decide +kernel) rfl rfl (Nat.le_of_ble_eq_true rfl) (HM.u_hd (HM.clr x t i) (i) (none)) (hc_s_hd (v := none) (show i < 16 by omega)) dX3_restart_40 (fun H locs hP hS => ?_)
          refine lv_iinc (v := nI (i + 1)) (lv' := [(6, .int (nI (i + 1))), (7, .ref (ad (9 + i))), (5, .int (16)), (4, .ref (ad 2)), (0, .ref (ad 0)), (1, .ref (ad (57 + t))), (2, .long (a))]) hx hb dX3_restart_43 hl (k := 1) rfl (nI_1 i) (by decide) rfl (fun ls hl => ?_)
          refine lv_goto (tgt := 14) hx hb dX3_restart_46 (by decide) ?_
          exact ih (i + 1) (by omega) H locs (by rw [← hs_clr_eq x he]; exact hP) hS ls (lv_sub hl [0, 2, 3, 4, 5, 6] rfl)
  refine lv_aload_n hx hb dX3_restart_0 rfl (lv_at hl 0 rfl) ?_
  refine hc_g_store G (in_X3_restart_X3) hP 1 (by decide) (by decide +kernel) (.ref (ad 2)) rfl rfl dX3_restart_1 ?_
  refine lv_astore (lv' := [(4, .ref (ad 2)), (0, .ref (ad 0)), (1, .ref (ad (57 + t))), (2, .long (a))]) hx hb dX3_restart_4 hl (by decide) rfl (fun ls hl => ?_)
  refine lv_aload hx hb dX3_restart_6 (lv_at hl 0 rfl) ?_
  refine va_alen hx hb G.2.2.2.2.1 hP 2 4 (hc_at_top (by decide)) rfl (v := 16) rfl dX3_restart_8 ?_
  refine lv_istore (lv' := [(5, .int (16)), (4, .ref (ad 2)), (0, .ref (ad 0)), (1, .ref (ad (57 + t))), (2, .long (a))]) hx hb dX3_restart_9 hl (by decide) rfl (fun ls hl => ?_)
  refine lv_iconst (v := 0) hx hb dX3_restart_11 (by decide) ?_
  refine lv_istore (lv' := [(6, .int (0)), (5, .int (16)), (4, .ref (ad 2)), (0, .ref (ad 0)), (1, .ref (ad (57 + t))), (2, .long (a))]) hx hb dX3_restart_12 hl (by decide) rfl (fun ls hl => ?_)
  exact loop 16 0 rfl s.heap [] (by rw [hs_clr_0]; exact hP) hS ls (lv_sub hl [0, 1, 2, 3, 4, 5] rfl)
theorem in_X3_lookUp_X0 : ∀ w ∈ u_ws RX0 TX0 8, w ∈ wsX3_lookUp := by decide +kernel
theorem in_X3_lookUp_X2 : ∀ w ∈ u_ws RX2 TX2 9, w ∈ wsX3_lookUp := by decide +kernel
theorem in_X3_lookUp_X1 : ∀ w ∈ u_ws RX1 TX1 2, w ∈ wsX3_lookUp := by decide +kernel
set_option maxHeartbeats 4000000 in
set_option maxRecDepth 100000 in
/-- lookUp -/
theorem c_lookUp (l : Launch) (D : va_G) (cy : Nat → ClassId) (ad : Nat → Nat) (ho : hc_ok ad) (x : HM) {k : Nat} (hk : k < 16) (hhd : ∀ u, x.hd k = some u → u < 8) (hgt : ∀ t, t < 8 → x.gt t < 4) (hlt : (x.hd k).isSome → (x.vk k).length < 16) {t : Nat} (ht : t < 8) : Ct l yX3_lookUp wsX3_lookUp ({ frames := 2, cells := 0, slots := 0, locals := 43 }) D cy (hc_A ad) [.ref (ad (9 + k)), .ref (ad (57 + t))] (hc_mem ad cy (x)) (some (va_rf ((x.lkU t k).map (fun u => ad (57 + u))))) (hc_mem ad cy (x.look t k)) := by
  refine ct_of (cc := cX3_lookUp) (maxL := 3) (ret := (some (.object "HlcStore$Transaction"))) rfl (by decide) (Nat.le_of_ble_eq_true rfl) ?_
  intro p e s m below meth c ls G hx hb hml hr hlocks hP hS hl
  have hl : lv_has ls 3 [(0, .ref (ad (9 + k))), (1, .ref (ad (57 + t)))] := hl
  cases hh : x.hd k with
  | none =>
    refine lv_aload_n hx hb dX3_lookUp_0 rfl (lv_at hl 0 rfl) ?_
    refine hc_g_keyn G (in_X3_lookUp_X0) hP (hk) 6 (by decide) (by decide +kernel) (.null) rfl (hc_hdN hh) dX3_lookUp_1 ?_
    refine lv_astore_nN (lv' := [(2, .null), (0, .ref (ad (9 + k))), (1, .ref (ad (57 + t)))]) hx hb dX3_lookUp_4 rfl hl (by decide) rfl (fun ls hl => ?_)
    refine lv_aload_nN hx hb dX3_lookUp_5 rfl (lv_at hl 0 rfl) ?_
    refine lv_ifnullN (tgt := 14) hx hb dX3_lookUp_6 (by decide) ?_
    refine lv_null hx hb dX3_lookUp_14 ?_
    exact ct_aret hx hb hr hlocks (Or.inl rfl) (by rw [HM.lkU, hh]; rfl) (by rw [HM.look, hh]; exact hP) hS dX3_lookUp_15
  | some u =>
    have hu8 := hhd u hh
    have hlt := hlt (by rw [hh]; rfl)
    have hgu := hgt u hu8
    refine lv_aload_n hx hb dX3_lookUp_0 rfl (lv_at hl 0 rfl) ?_
    refine hc_g_keyn G (in_X3_lookUp_X0) hP (hk) 6 (by decide) (by decide +kernel) (.ref (ad (57 + u))) rfl (hc_hdS hh) dX3_lookUp_1 ?_
    refine lv_astore_n (lv' := [(2, .ref (ad (57 + u))), (0, .ref (ad (9 + k))), (1, .ref (ad (57 + t)))]) hx hb dX3_lookUp_4 rfl hl (by decide) rfl (fun ls hl => ?_)
    refine lv_aload_n hx hb dX3_lookUp_5 rfl (lv_at hl 0 rfl) ?_
    refine lv_ifnull hx hb dX3_lookUp_6 ?_
    refine lv_aload_n hx hb dX3_lookUp_9 rfl (lv_at hl 0 rfl) ?_
    refine lv_aload_n hx hb dX3_lookUp_10 rfl (lv_at hl 2 rfl) ?_
    refine lv_acmp_ne (rx := some (ad (57 + u))) (ry := some (ad (57 + t))) (tgt := 16) hx hb dX3_lookUp_11 (by decide) (fun c_1 => ?_) (fun c_1 => ?_)
    · have hut : ¬ u = t := fun q => c_1 (by rw [q])
      refine lv_aload_n hx hb dX3_lookUp_16 rfl (lv_at hl 0 rfl) ?_
      refine hc_g_txn G (in_X3_lookUp_X2) hP (hu8) 1 (by decide) (by decide +kernel) (.ref (ad (5 + HM.gt (x) (u)))) rfl rfl dX3_lookUp_17 ?_
      refine lv_aload_n hx hb dX3_lookUp_20 rfl (lv_at hl 1 rfl) ?_
      refine hc_g_keyn G (in_X3_lookUp_X0) hP (hk) 1 (by decide) (by decide +kernel) (.ref (ad (5 + (k) % 4))) rfl rfl dX3_lookUp_21 ?_
      refine hc_g_noden G (in_X3_lookUp_X1) hP ((Nat.mod_lt _ (by decide))) 1 (by decide) (by decide +kernel) (.long (HM.ck (x) ((k) % 4))) rfl rfl dX3_lookUp_24 ?_
      refine hs_callN (n := 1) (As := [.long (HM.ck (x) ((k) % 4))]) (rest := []) G hml (c_takeIn l D cy ad ho (x) (hgu) (HM.ck (x) ((k) % 4))) gX3_lookUp_X1_takeIn_n92 rfl rfl rfl (by decide +kernel) (by decide +kernel) (by decide +kernel) (C := RX1) (by decide +kernel) (by decide +kernel) ⟨Nat.le_of_ble_eq_true rfl, Nat.le_of_ble_eq_true rfl⟩ (ci := 1) rfl rfl (hc_at_node (hgu)) rfl hl.1 (Nat.le_of_ble_eq_true rfl) ⟨Nat.zero_le _, Nat.zero_le _⟩ hP hS (fun _ h => h) rfl dX3_lookUp_27 (fun H locs hP hS _ _ => ?_)
      refine lv_aload_n hx hb dX3_lookUp_30 rfl (lv_at hl 1 rfl) ?_
      refine hc_g_keyn G (in_X3_lookUp_X0) hP (hk) 1 (by decide) (by decide +kernel) (.ref (ad (5 + (k) % 4))) rfl rfl dX3_lookUp_31 ?_
      refine lv_aload_n hx hb dX3_lookUp_34 rfl (lv_at hl 0 rfl) ?_
      refine hc_g_txn G (in_X3_lookUp_X2) hP (hu8) 1 (by decide) (by decide +kernel) (.ref (ad (5 + HM.gt (HM.tk (x) (HM.gt (x) (u)) (HM.ck (x) ((k) % 4))) (u)))) rfl rfl dX3_lookUp_35 ?_
      refine hc_g_noden G (in_X3_lookUp_X1) hP (hgu) 1 (by decide) (by decide +kernel) (.long (HM.ck (HM.tk (x) (HM.gt (x) (u)) (HM.ck (x) ((k) % 4))) (HM.gt (HM.tk (x) (HM.gt (x) (u)) (HM.ck (x) ((k) % 4))) (u)))) rfl rfl dX3_lookUp_38 ?_
      refine hs_callN (n := 1) (As := [.long (HM.ck (HM.tk (x) (HM.gt (x) (u)) (HM.ck (x) ((k) % 4))) (HM.gt (HM.tk (x) (HM.gt (x) (u)) (HM.ck (x) ((k) % 4))) (u)))]) (rest := []) G hml (c_takeIn l D cy ad ho (HM.tk (x) (HM.gt (x) (u)) (HM.ck (x) ((k) % 4))) ((Nat.mod_lt _ (by decide))) (HM.ck (HM.tk (x) (HM.gt (x) (u)) (HM.ck (x) ((k) % 4))) (HM.gt (HM.tk (x) (HM.gt (x) (u)) (HM.ck (x) ((k) % 4))) (u)))) gX3_lookUp_X1_takeIn_n92 rfl rfl rfl (by decide +kernel) (by decide +kernel) (by decide +kernel) (C := RX1) (by decide +kernel) (by decide +kernel) ⟨Nat.le_of_ble_eq_true rfl, Nat.le_of_ble_eq_true rfl⟩ (ci := 1) rfl rfl (hc_at_node ((Nat.mod_lt _ (by decide)))) rfl hl.1 (Nat.le_of_ble_eq_true rfl) ⟨Nat.zero_le _, Nat.zero_le _⟩ hP hS (fun _ h => h) rfl dX3_lookUp_41 (fun H locs hP hS _ _ => ?_)
      refine lv_aload_n hx hb dX3_lookUp_44 rfl (lv_at hl 0 rfl) ?_
      refine hs_callN (n := 0) (As := []) (rest := []) G hml (c_silent l D cy ad ho (HM.tk (HM.tk (x) (HM.gt (x) (u)) (HM.ck (x) ((k) % 4))) ((k) % 4) (HM.ck (HM.tk (x) (HM.gt (x) (u)) (HM.ck (x) ((k) % 4))) (HM.gt (HM.tk (x) (HM.gt (x) (u)) (HM.ck (x) ((k) % 4))) (u)))) (hu8) hgu) gX3_lookUp_X2_abortIfSilent_n193 rfl rfl rfl (by decide +kernel) (by decide +kernel) (by decide +kernel) (C := RX2) (by decide +kernel) (by decide +kernel) ⟨Nat.le_of_ble_eq_true rfl, Nat.le_of_ble_eq_true rfl⟩ (ci := 2) rfl rfl (hc_at_tx (hu8)) rfl hl.1 (Nat.le_of_ble_eq_true rfl) ⟨Nat.zero_le _, Nat.zero_le _⟩ hP hS (fun _ h => h) rfl dX3_lookUp_45 (fun H locs hP hS _ _ => ?_)
      have hP : va_P D vwCl (hc_mem ad cy (HM.lk3 x k u)) H := hP
      refine lv_aload_n hx hb dX3_lookUp_48 rfl (lv_at hl 0 rfl) ?_
      refine hc_g_txn G (in_X3_lookUp_X2) hP (hu8) 0 (by decide) (by decide +kernel) (.int (HM.ph (HM.lk3 x k u) (u))) rfl rfl dX3_lookUp_49 ?_
      refine lv_iconst (v := 1) hx hb dX3_lookUp_52 (by decide) ?_
      refine lv_icmp_ne (tgt := 58) hx hb dX3_lookUp_53 (by decide) (fun c_2 => ?_) (fun c_2 => ?_)
      · refine lv_aload_n hx hb dX3_lookUp_58 rfl (lv_at hl 1 rfl) ?_
        refine hs_callN (n := 0) (As := []) (rest := []) G hml (c_settle l D cy ad ho (HM.lk3 x k u) (hk) (hu8) ((by rw [hs_lk3_hd]; exact hh)) (by rw [hs_lk3_vk]; exact hlt)) gX3_lookUp_X0_settleIntent_n134 rfl rfl rfl (by decide +kernel) (by decide +kernel) (by decide +kernel) (C := RX0) (by decide +kernel) (by decide +kernel) ⟨Nat.le_of_ble_eq_true rfl, Nat.le_of_ble_eq_true rfl⟩ (ci := 0) rfl rfl (hc_at_key (hk)) rfl hl.1 (Nat.le_of_ble_eq_true rfl) ⟨Nat.zero_le _, Nat.zero_le _⟩ hP hS (fun _ h => h) rfl dX3_lookUp_59 (fun H locs hP hS _ _ => ?_)
        refine lv_null hx hb dX3_lookUp_62 ?_
        exact ct_aret hx hb hr hlocks (Or.inl rfl) (by rw [HM.lkU, hh]; dsimp only; rw [if_neg hut, if_neg (show ¬ (x.lk3 k u).ph u = 1 from c_2)]; rfl) (by rw [HM.look, hh]; dsimp only; rw [if_neg hut, HM.lk, if_neg (show ¬ (x.lk3 k u).ph u = 1 from c_2)]; exact hP) hS dX3_lookUp_63
      · refine lv_aload_n hx hb dX3_lookUp_56 rfl (lv_at hl 0 rfl) ?_
        exact ct_aret hx hb hr hlocks (Or.inr ⟨_, rfl⟩) (by rw [HM.lkU, hh]; dsimp only; rw [if_neg hut, if_pos (show (x.lk3 k u).ph u = 1 from c_2)]; rfl) (by rw [HM.look, hh]; dsimp only; rw [if_neg hut, HM.lk, if_pos (show (x.lk3 k u).ph u = 1 from c_2)]; exact hP) hS dX3_lookUp_57
    · have hut : u = t := by have := ho _ (by omega) _ (by omega) (Option.some.inj c_1); omega
      refine lv_null hx hb dX3_lookUp_14 ?_
      exact ct_aret hx hb hr hlocks (Or.inl rfl) (by rw [HM.lkU, hh]; dsimp only; rw [if_pos hut]; rfl) (by rw [HM.look, hh]; dsimp only; rw [if_pos hut]; exact hP) hS dX3_lookUp_15

theorem in_X3_readAtOwner_X0 : ∀ w ∈ u_ws RX0 TX0 8, w ∈ wsX3_readAtOwner := by decide +kernel
theorem in_X3_readAtOwner_X2 : ∀ w ∈ u_ws RX2 TX2 9, w ∈ wsX3_readAtOwner := by decide +kernel
theorem in_X3_readAtOwner_X3 : ∀ w ∈ u_ws RX3 TX3 6, w ∈ wsX3_readAtOwner := by decide +kernel
set_option maxHeartbeats 4000000 in
set_option maxRecDepth 100000 in
/-- readAtOwner -/
theorem c_readAtOwner (l : Launch) (D : va_G) (cy : Nat → ClassId) (ad : Nat → Nat) (ho : hc_ok ad) (x : HM) (B : Int) (hIn : x.In B) (hB : B + 100 < 4611686018427387904) {t : Nat} (ht : t < 8) {k : Nat} (hk : k < 16) : Ct l yX3_readAtOwner wsX3_readAtOwner ({ frames := 3, cells := 0, slots := 0, locals := 70 }) D cy (hc_A ad) [.ref (ad 0), .ref (ad (57 + t)), .ref (ad (9 + k))] (hc_mem ad cy (x)) (some (.long (x.rdA t k))) (hc_mem ad cy (x.rdM t k)) := by
  refine ct_of (cc := cX3_readAtOwner) (maxL := 6) (ret := (some .long)) rfl (by decide) (Nat.le_of_ble_eq_true rfl) ?_
  intro p e s m below meth c ls G hx hb hml hr hlocks hP hS hl
  have hl : lv_has ls 6 [(0, .ref (ad 0)), (1, .ref (ad (57 + t))), (2, .ref (ad (9 + k)))] := hl
  have hI1 := hIn.look (t := t) (by omega) hk
  have hI2 := hIn.lpR (by omega) ht hk
  by_cases he : x.hd k = some t
  · refine lv_aload_n hx hb dX3_readAtOwner_0 rfl (lv_at hl 2 rfl) ?_
    refine hc_g_keyn G (in_X3_readAtOwner_X0) hP (hk) 6 (by decide) (by decide +kernel) (va_rf ((HM.hd (x) (k)).map (fun t => ad (57 + t)))) rfl rfl dX3_readAtOwner_1 ?_
    refine lv_aload_n hx hb dX3_readAtOwner_4 rfl (lv_at hl 1 rfl) ?_
    refine lv_acmp_ne (rx := (HM.hd (x) (k)).map (fun t => ad (57 + t))) (ry := some (ad (57 + t))) (tgt := 14) hx hb dX3_readAtOwner_5 (by decide) (fun c_1 => ?_) (fun c_1 => ?_)
    · exact absurd he (fun q => c_1 ((hc_txI ho ht (hIn.hd hk)).mpr q))
    · refine lv_aload_n hx hb dX3_readAtOwner_8 rfl (lv_at hl 2 rfl) ?_
      refine hc_g_keyn G (in_X3_readAtOwner_X0) hP (hk) 7 (by decide) (by decide +kernel) (.int (HM.pl (x) (k))) rfl rfl dX3_readAtOwner_9 ?_
      refine lv_i2l (v := (Int32.toInt64 (HM.pl (x) (k)))) hx hb dX3_readAtOwner_12 rfl ?_
      exact ct_lret hx hb hr hlocks (by rw [HM.rdA, if_pos he]) (by rw [HM.rdM, if_pos he]; exact hP) hS dX3_readAtOwner_13
  · have eM : x.rdM t k = (x.lpR t k).rdX t k := if_neg he
    have eA : x.rdA t k = (x.lpR t k).rdY t k := if_neg he
    rw [eM, eA]
    generalize hz : x.lpR t k = z at hI2 ⊢
    have J32 : ∀ (H : Heap) (locs : List Loc), va_P D vwCl (hc_mem ad cy (z)) H → va_S (hc_A ad) s.heap H locs → ∀ ls : Array Slot, lv_has ls 6 [(0, .ref (ad 0)), (1, .ref (ad (57 + t))), (2, .ref (ad (9 + k)))] → W p l e ({ frames := 3, cells := 0, slots := 0, locals := 70 }) s m [.ref (ad 0), .ref (ad (57 + t)), .ref (ad (9 + k))].toArray below meth c H locs 0 0 (MQ below (hs_Post D (some (.long (z.rdY t k))) (hc_mem ad cy (z.rdX t k)) (hc_A ad)) [.ref (ad 0), .ref (ad (57 + t)), .ref (ad (9 + k))].toArray s 0 0 (hc_A ad)) (F0 m 32 ls []) := by
      intro H locs hP hS ls hl
      refine lv_aload_n hx hb dX3_readAtOwner_32 rfl (lv_at hl 2 rfl) ?_
      refine lv_aload_n hx hb dX3_readAtOwner_33 rfl (lv_at hl 1 rfl) ?_
      refine hc_g_txn G (in_X3_readAtOwner_X2) hP (ht) 4 (by decide) (by decide +kernel) (.long (HM.rs (z) (t))) rfl rfl dX3_readAtOwner_34 ?_
      refine lv_aload_n hx hb dX3_readAtOwner_37 rfl (lv_at hl 1 rfl) ?_
      refine hc_g_txn G (in_X3_readAtOwner_X2) hP (ht) 6 (by decide) (by decide +kernel) (.long (HM.lm (z) (t))) rfl rfl dX3_readAtOwner_38 ?_
      refine hs_callN (n := 2) (As := [.long (HM.rs (z) (t)), .long (HM.lm (z) (t))]) (rest := []) G hml (c_greatest l D cy ad ho (z) (hk) (hI2.le16 (hk)) (HM.rs (z) (t)) (HM.lm (z) (t))) gX3_readAtOwner_X0_greatestStampIn_n156 rfl rfl rfl (by decide +kernel) (by decide +kernel) (by decide +kernel) (C := RX0) (by decide +kernel) (by decide +kernel) ⟨Nat.le_of_ble_eq_true rfl, Nat.le_of_ble_eq_true rfl⟩ (ci := 0) rfl rfl (hc_at_key (hk)) rfl hl.1 (Nat.le_of_ble_eq_true rfl) ⟨Nat.zero_le _, Nat.zero_le _⟩ hP hS (fun _ h => h) rfl dX3_readAtOwner_41 (fun H locs hP hS _ _ => ?_)
      refine lv_lstore (lv' := [(4, .long (hs_gs (hs_best (HM.rs (z) (t)) (HM.lm (z) (t)) (HM.vk (z) (k))))), (0, .ref (ad 0)), (1, .ref (ad (57 + t))), (2, .ref (ad (9 + k)))]) hx hb dX3_readAtOwner_44 hl (by decide) rfl (fun ls hl => ?_)
      refine lv_lload hx hb dX3_readAtOwner_46 (lv_at hl 0 rfl) ?_
      refine lv_ldc2 (v := (-1)) hx hb G.2.2.2.1 (G.2.2.1 (.constantLong RX3 53 (-1)) (by decide +kernel)) dX3_readAtOwner_48 ?_
      refine hs_leq (x := hs_gs (hs_best (HM.rs (z) (t)) (HM.lm (z) (t)) (HM.vk (z) (k)))) (y := (-1)) (tgt := 66) hx hb dX3_readAtOwner_51 dX3_readAtOwner_52 (by decide) (fun c_1 => ?_) (fun c_1 => ?_)
      · have hbn : hs_best (z.rs t) (z.lm t) (z.vk k) = none := (hI2.gs_m1 _ _ _).mp c_1
        refine lv_aload_n hx hb dX3_readAtOwner_66 rfl (lv_at hl 3 rfl) ?_
        refine lv_aload_n hx hb dX3_readAtOwner_67 rfl (lv_at hl 2 rfl) ?_
        refine hc_g_txn G (in_X3_readAtOwner_X2) hP (ht) 4 (by decide) (by decide +kernel) (.long (HM.rs (z) (t))) rfl rfl dX3_readAtOwner_68 ?_
        refine hs_callN (n := 1) (As := [.long (HM.rs (z) (t))]) (rest := []) G hml (c_raise l D cy ad ho (z) (hk) (HM.rs (z) (t))) gX3_readAtOwner_X0_raiseReadMark_n162 rfl rfl rfl (by decide +kernel) (by decide +kernel) (by decide +kernel) (C := RX0) (by decide +kernel) (by decide +kernel) ⟨Nat.le_of_ble_eq_true rfl, Nat.le_of_ble_eq_true rfl⟩ (ci := 0) rfl rfl (hc_at_key (hk)) rfl hl.1 (Nat.le_of_ble_eq_true rfl) ⟨Nat.zero_le _, Nat.zero_le _⟩ hP hS (fun _ h => h) rfl dX3_readAtOwner_71 (fun H locs hP hS _ _ => ?_)
        refine lv_aload_n hx hb dX3_readAtOwner_74 rfl (lv_at hl 2 rfl) ?_
        refine lv_dup hx hb dX3_readAtOwner_75 rfl ?_
        refine hc_g_txn G (in_X3_readAtOwner_X2) hP (ht) 7 (by decide) (by decide +kernel) (.int (hs_mask (HM.se (HM.mk (z) (k) (HM.rs (z) (t))) (t)))) rfl rfl dX3_readAtOwner_76 ?_
        refine lv_aload_n hx hb dX3_readAtOwner_79 rfl (lv_at hl 3 rfl) ?_
        refine hc_g_keyn G (in_X3_readAtOwner_X0) hP (hk) 0 (by decide) (by decide +kernel) (.int (hs_bit (k))) rfl rfl dX3_readAtOwner_80 ?_
        refine lv_ior hx hb dX3_readAtOwner_83 ?_
        refine hc_p_txn ho G (in_X3_readAtOwner_X2) hP hS (ht) 7 (by decide) (by decide +kernel) (.int ((hs_mask (HM.se (HM.mk (z) (k) (HM.rs (z) (t))) (t)) ||| hs_bit (k)))) rfl rfl (.int) (by decide +kernel) rfl rfl (Nat.le_of_ble_eq_true rfl) (HM.u_se (HM.mk (z) (k) (HM.rs (z) (t))) (t) (va_up (HM.se (HM.mk z k (HM.rs z t)) t) k true)) (hc_s_seOr ht hk) dX3_readAtOwner_84 (fun H locs hP hS => ?_)
        refine lv_aload_n hx hb dX3_readAtOwner_87 rfl (lv_at hl 3 rfl) ?_
        refine lv_aload_n hx hb dX3_readAtOwner_88 rfl (lv_at hl 2 rfl) ?_
        refine hc_g_txn G (in_X3_readAtOwner_X2) hP (ht) 4 (by decide) (by decide +kernel) (.long (HM.rs (HM.u_se (HM.mk (z) (k) (HM.rs (z) (t))) (t) (va_up (HM.se (HM.mk z k (HM.rs z t)) t) k true)) (t))) rfl rfl dX3_readAtOwner_89 ?_
        refine hs_callN (n := 1) (As := [.long (HM.rs (HM.u_se (HM.mk (z) (k) (HM.rs (z) (t))) (t) (va_up (HM.se (HM.mk z k (HM.rs z t)) t) k true)) (t))]) (rest := []) G hml (c_valueAt l D cy ad ho (HM.u_se (HM.mk (z) (k) (HM.rs (z) (t))) (t) (va_up (HM.se (HM.mk z k (HM.rs z t)) t) k true)) (hk) (hI2.le16 (hk)) (HM.rs (HM.u_se (HM.mk (z) (k) (HM.rs (z) (t))) (t) (va_up (HM.se (HM.mk z k (HM.rs z t)) t) k true)) (t))) gX3_readAtOwner_X0_valueAt_n171 rfl rfl rfl (by decide +kernel) (by decide +kernel) (by decide +kernel) (C := RX0) (by decide +kernel) (by decide +kernel) ⟨Nat.le_of_ble_eq_true rfl, Nat.le_of_ble_eq_true rfl⟩ (ci := 0) rfl rfl (hc_at_key (hk)) rfl hl.1 (Nat.le_of_ble_eq_true rfl) ⟨Nat.zero_le _, Nat.zero_le _⟩ hP hS (fun _ h => h) rfl dX3_readAtOwner_92 (fun H locs hP hS _ _ => ?_)
        refine lv_i2l (v := (Int32.toInt64 (hs_gv (hs_best (-1) (HM.rs (HM.u_se (HM.mk (z) (k) (HM.rs (z) (t))) (t) (va_up (HM.se (HM.mk z k (HM.rs z t)) t) k true)) (t)) (HM.vk (HM.u_se (HM.mk (z) (k) (HM.rs (z) (t))) (t) (va_up (HM.se (HM.mk z k (HM.rs z t)) t) k true)) (k)))))) hx hb dX3_readAtOwner_95 rfl ?_
        exact ct_lret hx hb hr hlocks (by rw [HM.rdY, hbn]; rfl) (by rw [HM.rdX, hbn]; exact hP) hS dX3_readAtOwner_96
      · obtain ⟨v, hbv⟩ : ∃ v, hs_best (z.rs t) (z.lm t) (z.vk k) = some v := Option.ne_none_iff_exists'.mp (fun q => c_1 ((hI2.gs_m1 _ _ _).mpr q))
        refine lv_aload_n hx hb dX3_readAtOwner_55 rfl (lv_at hl 1 rfl) ?_
        refine lv_aload_n hx hb dX3_readAtOwner_56 rfl (lv_at hl 2 rfl) ?_
        refine lv_lload hx hb dX3_readAtOwner_57 (lv_at hl 0 rfl) ?_
        refine hs_callV (n := 2) (As := [.ref (ad (57 + t)), .long (hs_gs (hs_best (HM.rs (z) (t)) (HM.lm (z) (t)) (HM.vk (z) (k))))]) (rest := []) G hml (c_restart l D cy ad ho (z) (fun _ h => hI2.hd h) (ht) (hs_gs (hs_best (HM.rs (z) (t)) (HM.lm (z) (t)) (HM.vk (z) (k))))) gX3_readAtOwner_X3_restart rfl rfl rfl (by decide +kernel) ⟨Nat.le_of_ble_eq_true rfl, Nat.le_of_ble_eq_true rfl⟩ (ci := 3) rfl rfl (hc_at_top (j := 0) (by decide)) rfl hl.1 (Nat.le_of_ble_eq_true rfl) ⟨Nat.zero_le _, Nat.zero_le _⟩ hP hS (fun _ h => h) rfl dX3_readAtOwner_59 (fun H locs hP hS _ _ => ?_)
        refine lv_ldc2 (v := 4294967297) hx hb G.2.2.2.1 (G.2.2.1 (.constantLong RX3 160 4294967297) (by decide +kernel)) dX3_readAtOwner_62 ?_
        exact ct_lret hx hb hr hlocks (by rw [HM.rdY, hbv]) (by rw [HM.rdX, hbv]; rw [hbv] at hP; exact hP) hS dX3_readAtOwner_65
    refine lv_aload_n hx hb dX3_readAtOwner_0 rfl (lv_at hl 2 rfl) ?_
    refine hc_g_keyn G (in_X3_readAtOwner_X0) hP (hk) 6 (by decide) (by decide +kernel) (va_rf ((HM.hd (x) (k)).map (fun t => ad (57 + t)))) rfl rfl dX3_readAtOwner_1 ?_
    refine lv_aload_n hx hb dX3_readAtOwner_4 rfl (lv_at hl 1 rfl) ?_
    refine lv_acmp_ne (rx := (HM.hd (x) (k)).map (fun t => ad (57 + t))) (ry := some (ad (57 + t))) (tgt := 14) hx hb dX3_readAtOwner_5 (by decide) (fun c_1 => ?_) (fun c_1 => ?_)
    · refine lv_aload_n hx hb dX3_readAtOwner_14 rfl (lv_at hl 2 rfl) ?_
      refine lv_aload_n hx hb dX3_readAtOwner_15 rfl (lv_at hl 1 rfl) ?_
      refine hs_callS (n := 2) (As := [.ref (ad (9 + k)), .ref (ad (57 + t))]) (rest := []) G hml (c_lookUp l D cy ad ho (x) (hk) (hIn.hd (hk)) (fun _ h => hIn.gt h) (hIn.lt16 (hk)) (ht)) gX3_readAtOwner_X3_lookUp rfl rfl rfl (by decide +kernel) ⟨Nat.le_of_ble_eq_true rfl, Nat.le_of_ble_eq_true rfl⟩ rfl hl.1 (Nat.le_of_ble_eq_true rfl) ⟨Nat.zero_le _, Nat.zero_le _⟩ hP hS (fun _ h => h) rfl dX3_readAtOwner_16 (fun H locs hP hS _ _ => ?_)
      cases hlu : HM.lkU (x) (t) (k) with
      | none =>
        show W _ _ _ _ _ _ _ _ _ _ _ _ _ _ _ (F0 m 19 ls (.null :: []))
        refine lv_astore_nN (lv' := [(3, .null), (0, .ref (ad 0)), (1, .ref (ad (57 + t))), (2, .ref (ad (9 + k)))]) hx hb dX3_readAtOwner_19 rfl hl (by decide) rfl (fun ls hl => ?_)
        refine lv_aload_nN hx hb dX3_readAtOwner_20 rfl (lv_at hl 0 rfl) ?_
        refine lv_ifnullN (tgt := 32) hx hb dX3_readAtOwner_21 (by decide) ?_
        exact J32 H locs (by rw [← hz, HM.lpR, hlu]; exact hP) hS ls (lv_sub hl [1, 2, 3] rfl)
      | some u =>
        have hu8 : u < 8 := hIn.lkU hk hlu
        show W _ _ _ _ _ _ _ _ _ _ _ _ _ _ _ (F0 m 19 ls (.ref (ad (57 + u)) :: []))
        refine lv_astore_n (lv' := [(3, .ref (ad (57 + u))), (0, .ref (ad 0)), (1, .ref (ad (57 + t))), (2, .ref (ad (9 + k)))]) hx hb dX3_readAtOwner_19 rfl hl (by decide) rfl (fun ls hl => ?_)
        refine lv_aload_n hx hb dX3_readAtOwner_20 rfl (lv_at hl 0 rfl) ?_
        refine lv_ifnull hx hb dX3_readAtOwner_21 ?_
        refine lv_aload_n hx hb dX3_readAtOwner_24 rfl (lv_at hl 0 rfl) ?_
        refine lv_aload_n hx hb dX3_readAtOwner_25 rfl (lv_at hl 2 rfl) ?_
        refine hc_g_txn G (in_X3_readAtOwner_X2) hP (ht) 4 (by decide) (by decide +kernel) (.long (HM.rs (HM.look (x) (t) (k)) (t))) rfl rfl dX3_readAtOwner_26 ?_
        refine hs_callN (n := 1) (As := [.long (HM.rs (HM.look (x) (t) (k)) (t))]) (rest := []) G hml (c_push l D cy ad ho (HM.look (x) (t) (k)) (hu8) (HM.rs (HM.look (x) (t) (k)) (t)) (hs_lt_max (B := B + 2) (by omega) (hI1.rs ht).2)) gX3_readAtOwner_X2_pushWriteStampAbove_n150 rfl rfl rfl (by decide +kernel) (by decide +kernel) (by decide +kernel) (C := RX2) (by decide +kernel) (by decide +kernel) ⟨Nat.le_of_ble_eq_true rfl, Nat.le_of_ble_eq_true rfl⟩ (ci := 2) rfl rfl (hc_at_tx (hu8)) rfl hl.1 (Nat.le_of_ble_eq_true rfl) ⟨Nat.zero_le _, Nat.zero_le _⟩ hP hS (fun _ h => h) rfl dX3_readAtOwner_29 (fun H locs hP hS _ _ => ?_)
        exact J32 H locs (by rw [← hz, HM.lpR, hlu]; exact hP) hS ls (lv_sub hl [1, 2, 3] rfl)
    · exact absurd ((hc_txI ho ht (hIn.hd hk)).mp c_1) he
theorem in_X3_writeAtOwner_X0 : ∀ w ∈ u_ws RX0 TX0 8, w ∈ wsX3_writeAtOwner := by decide +kernel
theorem in_X3_writeAtOwner_X2 : ∀ w ∈ u_ws RX2 TX2 9, w ∈ wsX3_writeAtOwner := by decide +kernel
theorem in_X3_writeAtOwner_X3 : ∀ w ∈ u_ws RX3 TX3 6, w ∈ wsX3_writeAtOwner := by decide +kernel
set_option maxHeartbeats 4000000 in
set_option maxRecDepth 100000 in
/-- writeAtOwner -/
theorem c_writeAtOwner (l : Launch) (D : va_G) (cy : Nat → ClassId) (ad : Nat → Nat) (ho : hc_ok ad) (x : HM) (B : Int) (hIn : x.In B) (hB : B + 100 < 4611686018427387904) (hbi : ∀ t, t < 8 → x.bi t < 2 ^ 31) {t : Nat} (ht : t < 8) {k : Nat} (hk : k < 16) (v0 : Int32) : Ct l yX3_writeAtOwner wsX3_writeAtOwner ({ frames := 3, cells := 0, slots := 0, locals := 70 }) D cy (hc_A ad) [.ref (ad 0), .ref (ad (57 + t)), .ref (ad (9 + k)), .int (v0)] (hc_mem ad cy (x)) (some (.int (x.wrA t k))) (hc_mem ad cy (x.wrM t k v0)) := by
  refine ct_of (cc := cX3_writeAtOwner) (maxL := 5) (ret := (some .int)) rfl (by decide) (Nat.le_of_ble_eq_true rfl) ?_
  intro p e s m below meth c ls G hx hb hml hr hlocks hP hS hl
  have hl : lv_has ls 5 [(0, .ref (ad 0)), (1, .ref (ad (57 + t))), (2, .ref (ad (9 + k))), (3, .int (v0))] := hl
  have hI1 := hIn.look (t := t) (by omega) hk
  have hI2 := hIn.wr1 (t := t) (by omega) hk
  by_cases he : x.hd k = some t
  · refine lv_aload_n hx hb dX3_writeAtOwner_0 rfl (lv_at hl 2 rfl) ?_
    refine hc_g_keyn G (in_X3_writeAtOwner_X0) hP (hk) 6 (by decide) (by decide +kernel) (va_rf ((HM.hd (x) (k)).map (fun t => ad (57 + t)))) rfl rfl dX3_writeAtOwner_1 ?_
    refine lv_aload_n hx hb dX3_writeAtOwner_4 rfl (lv_at hl 1 rfl) ?_
    refine lv_acmp_ne (rx := (HM.hd (x) (k)).map (fun t => ad (57 + t))) (ry := some (ad (57 + t))) (tgt := 15) hx hb dX3_writeAtOwner_5 (by decide) (fun c_1 => ?_) (fun c_1 => ?_)
    · exact absurd he (fun q => c_1 ((hc_txI ho ht (hIn.hd hk)).mpr q))
    · refine lv_aload_n hx hb dX3_writeAtOwner_8 rfl (lv_at hl 2 rfl) ?_
      refine lv_iload_n hx hb dX3_writeAtOwner_9 rfl (lv_at hl 3 rfl) ?_
      refine hc_p_keyn ho G (in_X3_writeAtOwner_X0) hP hS (hk) 7 (by decide) (by decide +kernel) (.int (v0)) rfl rfl (.int) (by decide +kernel) rfl rfl (Nat.le_of_ble_eq_true rfl) (HM.u_pl (x) (k) (v0)) (hc_s_pl (v := v0) (hk)) dX3_writeAtOwner_10 (fun H locs hP hS => ?_)
      refine lv_iconst (v := 0) hx hb dX3_writeAtOwner_13 (by decide) ?_
      exact ct_iret hx hb hr hlocks (by rw [HM.wrA, if_pos he]) (by rw [HM.wrM, if_pos he]; exact hP) hS dX3_writeAtOwner_14
  · have eM : x.wrM t k v0 = if x.wrB t k then x.look t k else if 16 ≤ ((x.wr1 t k).vk k).length then x.wr1 t k else (x.wr1 t k).wr3 t k v0 := if_neg he
    have eA : x.wrA t k = if x.wrB t k then -5 else if 16 ≤ ((x.wr1 t k).vk k).length then -7 else 0 := if_neg he
    rw [eM, eA]
    have J55 : ∀ (z : HM) (hI2 : z.In (B + 2)) (H : Heap) (locs : List Loc), va_P D vwCl (hc_mem ad cy (z)) H → va_S (hc_A ad) s.heap H locs → ∀ ls : Array Slot, lv_has ls 5 [(0, .ref (ad 0)), (1, .ref (ad (57 + t))), (2, .ref (ad (9 + k))), (3, .int (v0))] → W p l e ({ frames := 3, cells := 0, slots := 0, locals := 70 }) s m [.ref (ad 0), .ref (ad (57 + t)), .ref (ad (9 + k)), .int v0].toArray below meth c H locs 0 0 (MQ below (hs_Post D (some (.int (if 16 ≤ (z.vk k).length then -7 else 0))) (hc_mem ad cy (if 16 ≤ (z.vk k).length then z else z.wr3 t k v0)) (hc_A ad)) [.ref (ad 0), .ref (ad (57 + t)), .ref (ad (9 + k)), .int v0].toArray s 0 0 (hc_A ad)) (F0 m 55 ls []) := by
      intro z hI2 H locs hP hS ls hl
      have hI3 := hI2.pu (by omega) ht (s := z.lr k) ⟨by have := (hI2.lr hk).1; omega, (hI2.lr hk).2⟩
      refine lv_aload_n hx hb dX3_writeAtOwner_55 rfl (lv_at hl 2 rfl) ?_
      refine hc_g_keyn G (in_X3_writeAtOwner_X0) hP (hk) 4 (by decide) (by decide +kernel) (.int (nI (HM.vk (z) (k)).length)) rfl rfl dX3_writeAtOwner_56 ?_
      refine lv_bipush (v := 16) hx hb dX3_writeAtOwner_59 (by decide) ?_
      refine lv_icmp_lt (tgt := 67) hx hb dX3_writeAtOwner_61 (by decide) (fun c_1 => ?_) (fun c_1 => ?_)
      · have hlt : ¬ 16 ≤ (z.vk k).length := Nat.not_le.mpr ((nI_ltI (b := 16) (by have := hI2.le16 hk; omega) (by decide)).mp c_1)
        refine lv_aload_n hx hb dX3_writeAtOwner_67 rfl (lv_at hl 1 rfl) ?_
        refine lv_aload_n hx hb dX3_writeAtOwner_68 rfl (lv_at hl 2 rfl) ?_
        refine hc_g_keyn G (in_X3_writeAtOwner_X0) hP (hk) 5 (by decide) (by decide +kernel) (.long (HM.lr (z) (k))) rfl rfl dX3_writeAtOwner_69 ?_
        refine hs_callN (n := 1) (As := [.long (HM.lr (z) (k))]) (rest := []) G hml (c_push l D cy ad ho (z) (ht) (HM.lr (z) (k)) (hs_lt_max (B := B + 2) (by omega) (hI2.lr hk).2)) gX3_writeAtOwner_X2_pushWriteStampAbove_n150 rfl rfl rfl (by decide +kernel) (by decide +kernel) (by decide +kernel) (C := RX2) (by decide +kernel) (by decide +kernel) ⟨Nat.le_of_ble_eq_true rfl, Nat.le_of_ble_eq_true rfl⟩ (ci := 2) rfl rfl (hc_at_tx (ht)) rfl hl.1 (Nat.le_of_ble_eq_true rfl) ⟨Nat.zero_le _, Nat.zero_le _⟩ hP hS (fun _ h => h) rfl dX3_writeAtOwner_72 (fun H locs hP hS _ _ => ?_)
        refine lv_aload_n hx hb dX3_writeAtOwner_75 rfl (lv_at hl 1 rfl) ?_
        refine lv_aload_n hx hb dX3_writeAtOwner_76 rfl (lv_at hl 2 rfl) ?_
        refine lv_ldc2 (v := (-1)) hx hb G.2.2.2.1 (G.2.2.1 (.constantLong RX3 53 (-1)) (by decide +kernel)) dX3_writeAtOwner_77 ?_
        refine lv_ldc2 (v := 9223372036854775807) hx hb G.2.2.2.1 (G.2.2.1 (.constantLong RX3 187 9223372036854775807) (by decide +kernel)) dX3_writeAtOwner_80 ?_
        refine hs_callN (n := 2) (As := [.long ((-1)), .long (9223372036854775807)]) (rest := [.ref (ad (57 + t))]) G hml (c_greatest l D cy ad ho (HM.pu (z) (t) (HM.lr (z) (k))) (hk) (hI3.le16 (hk)) ((-1)) (9223372036854775807)) gX3_writeAtOwner_X0_greatestStampIn_n156 rfl rfl rfl (by decide +kernel) (by decide +kernel) (by decide +kernel) (C := RX0) (by decide +kernel) (by decide +kernel) ⟨Nat.le_of_ble_eq_true rfl, Nat.le_of_ble_eq_true rfl⟩ (ci := 0) rfl rfl (hc_at_key (hk)) rfl hl.1 (Nat.le_of_ble_eq_true rfl) ⟨Nat.zero_le _, Nat.zero_le _⟩ hP hS (fun _ h => h) rfl dX3_writeAtOwner_83 (fun H locs hP hS _ _ => ?_)
        refine hs_callN (n := 1) (As := [.long (hs_gs (hs_best ((-1)) (9223372036854775807) (HM.vk (HM.pu (z) (t) (HM.lr (z) (k))) (k))))]) (rest := []) G hml (c_push l D cy ad ho (HM.pu (z) (t) (HM.lr (z) (k))) (ht) (hs_gs (hs_best ((-1)) (9223372036854775807) (HM.vk (HM.pu (z) (t) (HM.lr (z) (k))) (k)))) (hs_lt_max (B := B + 3) (by omega) (by have := (hI3.gs (-1) 9223372036854775807 k).2; omega))) gX3_writeAtOwner_X2_pushWriteStampAbove_n150 rfl rfl rfl (by decide +kernel) (by decide +kernel) (by decide +kernel) (C := RX2) (by decide +kernel) (by decide +kernel) ⟨Nat.le_of_ble_eq_true rfl, Nat.le_of_ble_eq_true rfl⟩ (ci := 2) rfl rfl (hc_at_tx (ht)) rfl hl.1 (Nat.le_of_ble_eq_true rfl) ⟨Nat.zero_le _, Nat.zero_le _⟩ hP hS (fun _ h => h) rfl dX3_writeAtOwner_86 (fun H locs hP hS _ _ => ?_)
        refine lv_aload_n hx hb dX3_writeAtOwner_89 rfl (lv_at hl 2 rfl) ?_
        refine lv_aload_n hx hb dX3_writeAtOwner_90 rfl (lv_at hl 1 rfl) ?_
        refine hc_p_keyn ho G (in_X3_writeAtOwner_X0) hP hS (hk) 6 (by decide) (by decide +kernel) (.ref (ad (57 + t))) rfl rfl (.object "HlcStore$Transaction") (by decide +kernel) rfl rfl (Nat.le_of_ble_eq_true rfl) (HM.u_hd (HM.pu (HM.pu (z) (t) (HM.lr (z) (k))) (t) (hs_gs (hs_best ((-1)) (9223372036854775807) (HM.vk (HM.pu (z) (t) (HM.lr (z) (k))) (k))))) (k) (some (t))) (hc_s_hd (v := some (t)) (hk)) dX3_writeAtOwner_91 (fun H locs hP hS => ?_)
        refine lv_aload_n hx hb dX3_writeAtOwner_94 rfl (lv_at hl 2 rfl) ?_
        refine lv_iload_n hx hb dX3_writeAtOwner_95 rfl (lv_at hl 3 rfl) ?_
        refine hc_p_keyn ho G (in_X3_writeAtOwner_X0) hP hS (hk) 7 (by decide) (by decide +kernel) (.int (v0)) rfl rfl (.int) (by decide +kernel) rfl rfl (Nat.le_of_ble_eq_true rfl) (HM.u_pl (HM.u_hd (HM.pu (HM.pu (z) (t) (HM.lr (z) (k))) (t) (hs_gs (hs_best ((-1)) (9223372036854775807) (HM.vk (HM.pu (z) (t) (HM.lr (z) (k))) (k))))) (k) (some (t))) (k) (v0)) (hc_s_pl (v := v0) (hk)) dX3_writeAtOwner_96 (fun H locs hP hS => ?_)
        refine lv_iconst (v := 0) hx hb dX3_writeAtOwner_99 (by decide) ?_
        exact ct_iret hx hb hr hlocks (by rw [if_neg hlt]) (by rw [if_neg hlt]; exact hP) hS dX3_writeAtOwner_100
      · have hge : 16 ≤ (z.vk k).length := Nat.not_lt.mp (fun q => c_1 (nI_lt (b := 16) q (by decide)))
        refine lv_bipush (v := (-7)) hx hb dX3_writeAtOwner_64 (by decide) ?_
        exact ct_iret hx hb hr hlocks (by rw [if_pos hge]) (by rw [if_pos hge]; exact hP) hS dX3_writeAtOwner_66
    refine lv_aload_n hx hb dX3_writeAtOwner_0 rfl (lv_at hl 2 rfl) ?_
    refine hc_g_keyn G (in_X3_writeAtOwner_X0) hP (hk) 6 (by decide) (by decide +kernel) (va_rf ((HM.hd (x) (k)).map (fun t => ad (57 + t)))) rfl rfl dX3_writeAtOwner_1 ?_
    refine lv_aload_n hx hb dX3_writeAtOwner_4 rfl (lv_at hl 1 rfl) ?_
    refine lv_acmp_ne (rx := (HM.hd (x) (k)).map (fun t => ad (57 + t))) (ry := some (ad (57 + t))) (tgt := 15) hx hb dX3_writeAtOwner_5 (by decide) (fun c_1 => ?_) (fun c_1 => ?_)
    · refine lv_aload_n hx hb dX3_writeAtOwner_15 rfl (lv_at hl 2 rfl) ?_
      refine lv_aload_n hx hb dX3_writeAtOwner_16 rfl (lv_at hl 1 rfl) ?_
      refine hs_callS (n := 2) (As := [.ref (ad (9 + k)), .ref (ad (57 + t))]) (rest := []) G hml (c_lookUp l D cy ad ho (x) (hk) (hIn.hd (hk)) (fun _ h => hIn.gt h) (hIn.lt16 (hk)) (ht)) gX3_writeAtOwner_X3_lookUp rfl rfl rfl (by decide +kernel) ⟨Nat.le_of_ble_eq_true rfl, Nat.le_of_ble_eq_true rfl⟩ rfl hl.1 (Nat.le_of_ble_eq_true rfl) ⟨Nat.zero_le _, Nat.zero_le _⟩ hP hS (fun _ h => h) rfl dX3_writeAtOwner_17 (fun H locs hP hS _ _ => ?_)
      cases hlu : HM.lkU (x) (t) (k) with
      | none =>
        show W _ _ _ _ _ _ _ _ _ _ _ _ _ _ _ (F0 m 20 ls (.null :: []))
        refine lv_astoreN (lv' := [(4, .null), (0, .ref (ad 0)), (1, .ref (ad (57 + t))), (2, .ref (ad (9 + k))), (3, .int (v0))]) hx hb dX3_writeAtOwner_20 hl (by decide) rfl (fun ls hl => ?_)
        refine lv_aloadN hx hb dX3_writeAtOwner_22 (lv_at hl 0 rfl) ?_
        refine lv_ifnullN (tgt := 55) hx hb dX3_writeAtOwner_24 (by decide) ?_
        have e1 : x.wrB t k = false := by rw [HM.wrB, hlu]
        have e2 : x.wr1 t k = x.look t k := by rw [HM.wr1, hlu]
        rw [e1, e2]
        rw [e2] at hI2
        exact J55 _ hI2 H locs hP hS ls (lv_sub hl [1, 2, 3, 4] rfl)
      | some u =>
        have hu8 : u < 8 := hIn.lkU hk hlu
        show W _ _ _ _ _ _ _ _ _ _ _ _ _ _ _ (F0 m 20 ls (.ref (ad (57 + u)) :: []))
        refine lv_astore (lv' := [(4, .ref (ad (57 + u))), (0, .ref (ad 0)), (1, .ref (ad (57 + t))), (2, .ref (ad (9 + k))), (3, .int (v0))]) hx hb dX3_writeAtOwner_20 hl (by decide) rfl (fun ls hl => ?_)
        refine lv_aload hx hb dX3_writeAtOwner_22 (lv_at hl 0 rfl) ?_
        refine lv_ifnull hx hb dX3_writeAtOwner_24 ?_
        refine lv_aload hx hb dX3_writeAtOwner_27 (lv_at hl 0 rfl) ?_
        refine hc_g_txn G (in_X3_writeAtOwner_X2) hP (hu8) 3 (by decide) (by decide +kernel) (.int (nI (HM.bi (HM.look (x) (t) (k)) (u)))) rfl rfl dX3_writeAtOwner_29 ?_
        refine lv_aload_n hx hb dX3_writeAtOwner_32 rfl (lv_at hl 2 rfl) ?_
        refine hc_g_txn G (in_X3_writeAtOwner_X2) hP (ht) 3 (by decide) (by decide +kernel) (.int (nI (HM.bi (HM.look (x) (t) (k)) (t)))) rfl rfl dX3_writeAtOwner_33 ?_
        refine lv_icmp_ge (tgt := 42) hx hb dX3_writeAtOwner_36 (by decide) (fun c_2 => ?_) (fun c_2 => ?_)
        · have hb1 : (x.look t k).bi u < 2 ^ 31 := by rw [hs_look_bi]; exact hbi u hu8
          have hb2 : (x.look t k).bi t < 2 ^ 31 := by rw [hs_look_bi]; exact hbi t ht
          have e1 : x.wrB t k = false := by rw [HM.wrB, hlu]; exact decide_eq_false (Nat.not_lt.mpr ((nI_leI hb2 hb1).mp c_2))
          refine lv_aload_n hx hb dX3_writeAtOwner_42 rfl (lv_at hl 1 rfl) ?_
          refine lv_aload hx hb dX3_writeAtOwner_43 (lv_at hl 0 rfl) ?_
          refine lv_lconst (v := 0) hx hb dX3_writeAtOwner_45 (by decide) ?_
          refine hs_callV (n := 2) (As := [.ref (ad (57 + u)), .long (0)]) (rest := []) G hml (c_restart l D cy ad ho (HM.look (x) (t) (k)) (fun _ h => hI1.hd h) (hu8) (0)) gX3_writeAtOwner_X3_restart rfl rfl rfl (by decide +kernel) ⟨Nat.le_of_ble_eq_true rfl, Nat.le_of_ble_eq_true rfl⟩ (ci := 3) rfl rfl (hc_at_top (j := 0) (by decide)) rfl hl.1 (Nat.le_of_ble_eq_true rfl) ⟨Nat.zero_le _, Nat.zero_le _⟩ hP hS (fun _ h => h) rfl dX3_writeAtOwner_46 (fun H locs hP hS _ _ => ?_)
          refine lv_aload hx hb dX3_writeAtOwner_49 (lv_at hl 0 rfl) ?_
          refine lv_iconst (v := 1) hx hb dX3_writeAtOwner_51 (by decide) ?_
          refine hc_p_txn ho G (in_X3_writeAtOwner_X2) hP hS (hu8) 8 (by decide) (by decide +kernel) (.int (1)) rfl rfl (.boolean) (by decide +kernel) (by decide) (by decide) (Nat.le_of_ble_eq_true rfl) (HM.u_hu (HM.re (HM.look (x) (t) (k)) (u) (0)) (u) (1)) (hc_s_hu (v := 1) (hu8)) dX3_writeAtOwner_52 (fun H locs hP hS => ?_)
          have e2 : x.wr1 t k = ((x.look t k).re u 0).u_hu u 1 := by rw [HM.wr1, hlu]
          rw [e1, e2]
          rw [e2] at hI2
          exact J55 _ hI2 H locs hP hS ls (lv_sub hl [1, 2, 3, 4] rfl)
        · have hb1 : (x.look t k).bi u < 2 ^ 31 := by rw [hs_look_bi]; exact hbi u hu8
          have hb2 : (x.look t k).bi t < 2 ^ 31 := by rw [hs_look_bi]; exact hbi t ht
          have e1 : x.wrB t k = true := by rw [HM.wrB, hlu]; exact decide_eq_true (Nat.lt_of_not_le (fun q => c_2 ((nI_leI hb2 hb1).mpr q)))
          rw [e1]
          refine lv_bipush (v := (-5)) hx hb dX3_writeAtOwner_39 (by decide) ?_
          exact ct_iret hx hb hr hlocks rfl hP hS dX3_writeAtOwner_41
    · exact absurd ((hc_txI ho ht (hIn.hd hk)).mp c_1) he

set_option maxHeartbeats 4000000 in
set_option maxRecDepth 100000 in
theorem k_Node (l : Launch) (D : va_G) (cy : Nat → ClassId) (A : Nat → Prop) (a : Nat) (mem : va_W) (hz : Nat) : Cc l yX1_init wsX1_init ({ frames := 1, cells := 0, slots := 0, locals := 12 }) D cy A [.ref a] mem hz mem 0 0 := by
  refine cc_of (cc := cX1_init) (maxL := 1) (ret := none) rfl (by decide) (Nat.le_of_ble_eq_true rfl) ?_
  intro p e s m below meth c ls G hAO hmn hx hb hml hr hlocks hP hsz0 hS hl
  have hl : lv_has ls 1 [(0, .ref a)] := hl
  refine lv_aload_n hx hb dX1_init_0 rfl (lv_at hl 0 rfl) ?_
  refine hs_super G (hml.trans hl.1.symm) (by decide +kernel) (by decide +kernel) (by decide +kernel) (Nat.le_of_ble_eq_true rfl) (Nat.le_of_ble_eq_true rfl) dX1_init_1 ?_
  exact cc_ret hx hb hr hlocks hP hS (Nat.le_refl _) (Nat.le_refl _) dX1_init_4
theorem in_X2_init_X2 : ∀ w ∈ u_ws RX2 TX2 9, w ∈ wsX2_init := by decide +kernel
set_option maxHeartbeats 4000000 in
set_option maxRecDepth 100000 in
theorem k_Tx (l : Launch) (D : va_G) (cy : Nat → ClassId) (b0 sz : Nat) (hb0 : b0 < sz) (f : Nat → va_E) (n j g hz : Nat) (hj : j < n) (fs : List Value) (hf : f j = .inr (2, fs)) (hl9 : fs.length = 9) : Cc l yX2_init wsX2_init ({ frames := 1, cells := 0, slots := 0, locals := 12 }) D cy (hs_CA b0 sz) [.ref (hs_ad b0 sz j), .ref g] (hs_wl b0 sz f n) hz (hs_wl b0 sz (va_up f j (.inr (2, fs.set 1 (.ref g)))) n) 0 0 := by
  refine cc_of (cc := cX2_init) (maxL := 2) (ret := none) rfl (by decide) (Nat.le_of_ble_eq_true rfl) ?_
  intro p e s m below meth c ls G hAO hmn hx hb hml hr hlocks hP hsz0 hS hl
  have hl : lv_has ls 2 [(0, .ref (hs_ad b0 sz j)), (1, .ref g)] := hl
  refine lv_aload_n hx hb dX2_init_0 rfl (lv_at hl 0 rfl) ?_
  refine hs_super G (hml.trans hl.1.symm) (by decide +kernel) (by decide +kernel) (by decide +kernel) (Nat.le_of_ble_eq_true rfl) (Nat.le_of_ble_eq_true rfl) dX2_init_1 ?_
  refine lv_aload_n hx hb dX2_init_4 rfl (lv_at hl 0 rfl) ?_
  refine lv_aload_n hx hb dX2_init_5 rfl (lv_at hl 1 rfl) ?_
  refine hs_putO hb0 G in_X2_init_X2 tyX2 tyX2_ok nmX2 (ci := 2) rfl hP hS j hj hf 1 (by decide) (by decide +kernel) rfl rfl (.ref g) (.object "HlcStore$Node") (by decide +kernel) rfl rfl (by rw [hl9]; decide) dX2_init_6 (fun H locs hP hS => ?_)
  exact cc_ret hx hb hr hlocks hP hS (Nat.le_refl _) (Nat.le_refl _) dX2_init_9
theorem in_X0_init_X0 : ∀ w ∈ u_ws RX0 TX0 8, w ∈ wsX0_init := by decide +kernel
set_option maxHeartbeats 4000000 in
set_option maxRecDepth 100000 in
theorem k_Key (l : Launch) (D : va_G) (cy : Nat → ClassId) (b0 sz : Nat) (hb0 : b0 < sz) (f : Nat → va_E) (n g hz : Nat) (bit : Int32) (hn1 : 1 ≤ n) (hf : f n = .inr (0, [.int 0, .null, .null, .null, .int 0, .long 0, .null, .int 0])) (hf1 : f (n + 1) = .inl (cy 1, 16, .inr (.inl (fun _ => 0)))) (hf2 : f (n + 2) = .inl (cy 0, 16, .inl (fun _ => 0))) (hhz : hz + 1 = sz + (n + 1)) : Cc l yX0_init wsX0_init ({ frames := 1, cells := 2, slots := 32, locals := 12 }) D cy (hs_CA b0 sz) [.ref (hs_ad b0 sz n), .int bit, .ref g] (hs_wl b0 sz f (n + 1)) hz (hs_wl b0 sz (va_up f n (.inr (0, [.int bit, .ref g, .ref (hs_ad b0 sz (n + 1)), .ref (hs_ad b0 sz (n + 2)), .int 0, .long 0, .null, .int 0]))) (n + 3)) 2 32 := by
  refine cc_of (cc := cX0_init) (maxL := 3) (ret := none) rfl (by decide) (Nat.le_of_ble_eq_true rfl) ?_
  intro p e s m below meth c ls G hAO hmn hx hb hml hr hlocks hP hsz0 hS hl
  have hl : lv_has ls 3 [(0, .ref (hs_ad b0 sz n)), (1, .int bit), (2, .ref g)] := hl
  have hsz : s.heap.size + 1 = sz + (n + 1) := by rw [hsz0]; exact hhz
  refine lv_aload_n hx hb dX0_init_0 rfl (lv_at hl 0 rfl) ?_
  refine hs_super G (hml.trans hl.1.symm) (by decide +kernel) (by decide +kernel) (by decide +kernel) (Nat.le_of_ble_eq_true rfl) (Nat.le_of_ble_eq_true rfl) dX0_init_1 ?_
  refine lv_aload_n hx hb dX0_init_4 rfl (lv_at hl 0 rfl) ?_
  refine lv_iload_n hx hb dX0_init_5 rfl (lv_at hl 1 rfl) ?_
  refine hs_putF hb0 G in_X0_init_X0 tyX0 tyX0_ok nmX0 (ci := 0) rfl hmn hP hS n (by omega) hf 0 (by decide) (by decide +kernel) rfl rfl rfl (.int bit) (.int) (by decide +kernel) rfl rfl (Nat.le_of_ble_eq_true rfl) dX0_init_6 (fun H locs hP hS => ?_)
  refine lv_aload_n hx hb dX0_init_9 rfl (lv_at hl 0 rfl) ?_
  refine lv_aload_n hx hb dX0_init_10 rfl (lv_at hl 2 rfl) ?_
  refine hs_putF hb0 G in_X0_init_X0 tyX0 tyX0_ok nmX0 (ci := 0) rfl hmn hP hS n (by omega) (va_up_self _ _ _) 1 (by decide) (by decide +kernel) rfl rfl rfl (.ref g) (.object "HlcStore$Node") (by decide +kernel) rfl rfl (Nat.le_of_ble_eq_true rfl) dX0_init_11 (fun H locs hP hS => ?_)
  rw [bx_uu] at hP
  refine lv_aload_n hx hb dX0_init_14 rfl (lv_at hl 0 rfl) ?_
  refine lv_bipush (v := 16) hx hb dX0_init_15 (by decide) ?_
  refine hs_newA (atype := .long) (ty := .long) G rfl (by decide +kernel) 1 rfl (fun _ _ h => h) hP (n0 := n + 1) (Nat.zero_add _) (by omega) hsz hS 16 (16, .inr (.inl (fun _ => 0))) (fun _ => rfl) (by rw [va_up_ne _ _ (by omega)]; exact hf1) (by decide) (by decide) (by decide) (Nat.le_of_ble_eq_true rfl) (Nat.le_of_ble_eq_true rfl) dX0_init_17 (fun H hP hS => ?_)
  refine hs_putF hb0 G in_X0_init_X0 tyX0 tyX0_ok nmX0 (ci := 0) rfl hmn hP hS n (by omega) (va_up_self _ _ _) 2 (by decide) (by decide +kernel) rfl rfl rfl (.ref (hs_ad b0 sz (n + 1))) (.array .long) (by decide +kernel) rfl rfl (Nat.le_of_ble_eq_true rfl) dX0_init_19 (fun H locs hP hS => ?_)
  rw [bx_uu] at hP
  refine lv_aload_n hx hb dX0_init_22 rfl (lv_at hl 0 rfl) ?_
  refine lv_bipush (v := 16) hx hb dX0_init_23 (by decide) ?_
  refine hs_newA (atype := .int) (ty := .int) G rfl (by decide +kernel) 0 rfl (fun _ _ h => h) hP (n0 := n + 1) (by omega) (by omega) hsz hS 16 (16, .inl (fun _ => 0)) (fun _ => rfl) (by rw [va_up_ne _ _ (by omega)]; exact hf2) (by decide) (by decide) (by decide) (Nat.le_of_ble_eq_true rfl) (Nat.le_of_ble_eq_true rfl) dX0_init_25 (fun H hP hS => ?_)
  refine hs_putF hb0 G in_X0_init_X0 tyX0 tyX0_ok nmX0 (ci := 0) rfl hmn hP hS n (by omega) (va_up_self _ _ _) 3 (by decide) (by decide +kernel) rfl rfl rfl (.ref (hs_ad b0 sz (n + 2))) (.array .int) (by decide +kernel) rfl rfl (Nat.le_of_ble_eq_true rfl) dX0_init_27 (fun H locs hP hS => ?_)
  rw [bx_uu] at hP
  exact cc_ret hx hb hr hlocks hP hS (Nat.le_refl _) (Nat.le_refl _) dX0_init_30
theorem in_X3_init_X3 : ∀ w ∈ u_ws RX3 TX3 6, w ∈ wsX3_init := by decide +kernel
theorem in_X3_init_X1 : ∀ w ∈ u_ws RX1 TX1 2, w ∈ wsX3_init := by decide +kernel
theorem in_X3_init_X0 : ∀ w ∈ u_ws RX0 TX0 8, w ∈ wsX3_init := by decide +kernel
theorem in_X3_init_X2 : ∀ w ∈ u_ws RX2 TX2 9, w ∈ wsX3_init := by decide +kernel
set_option maxHeartbeats 4000000 in
set_option maxRecDepth 100000 in
theorem k_Store (l : Launch) (D : va_G) (cy : Nat → ClassId) (b0 sz : Nat) (hb0 : b0 < sz) : Cc l yX3_init wsX3_init ({ frames := 2, cells := 64, slots := 1004, locals := 43 }) D cy (hs_CA b0 sz) [.ref (hs_ad b0 sz 0)] (hs_wl b0 sz (hk b0 sz cy [.null, .null, .null, .null, .int 0, .int 0] (0) (0) (0)) 1) sz (hs_wl b0 sz (hk b0 sz cy (hk_S4 b0 sz) 4 16 8) 65) 64 1004 := by
  refine cc_of (cc := cX3_init) (maxL := 2) (ret := none) rfl (by decide) (Nat.le_of_ble_eq_true rfl) ?_
  intro p e s m below meth c ls G hAO hmn hx hb hml hr hlocks hP hsz0 hS hl
  have hl : lv_has ls 2 [(0, .ref (hs_ad b0 sz 0))] := hl
  have hsz : s.heap.size + 1 = sz + 1 := by rw [hsz0]
  have J127 : ∀ (H : Heap) (locs : List Loc), va_P D vwCl (hs_wl b0 sz (hk b0 sz cy [.ref (hs_ad b0 sz 1), .ref (hs_ad b0 sz 6), .ref (hs_ad b0 sz 55), .null, .int 0, .int 0] (4) (16) (8)) 64) H → va_S (hs_CA b0 sz) s.heap H locs → ∀ ls : Array Slot, lv_has ls 2 [(0, .ref (hs_ad b0 sz 0))] → W p l e ({ frames := 2, cells := 64, slots := 1004, locals := 43 }) s m [.ref (hs_ad b0 sz 0)].toArray below meth c H locs 63 748 (MQ below (hs_PostC D (hs_wl b0 sz (hk b0 sz cy (hk_S4 b0 sz) 4 16 8) 65) (hs_CA b0 sz)) [.ref (hs_ad b0 sz 0)].toArray s 64 1004 (hs_CA b0 sz)) (F0 m 127 ls []) := by
    intro H locs hP hS ls hl
    refine lv_aload_n hx hb dX3_init_127 rfl (lv_at hl 0 rfl) ?_
    refine lv_sipush (v := 256) hx hb dX3_init_128 (by decide) ?_
    refine hs_newA (atype := .long) (ty := .long) G rfl (by decide +kernel) 1 rfl (fun _ _ h => h) hP (n0 := 1) rfl (by decide) hsz hS 256 (256, .inr (.inl (fun _ => 0))) (fun _ => rfl) hk_64 (by decide) (by decide) (by decide) (Nat.le_of_ble_eq_true rfl) (Nat.le_of_ble_eq_true rfl) dX3_init_131 (fun H hP hS => ?_)
    refine hs_putF hb0 G in_X3_init_X3 tyX3 tyX3_ok nmX3 (ci := 3) rfl hmn hP hS 0 (by decide) hk_0 3 (by decide) (by decide +kernel) rfl rfl rfl (.ref (hs_ad b0 sz 64)) (.array .long) (by decide +kernel) rfl rfl (Nat.le_of_ble_eq_true rfl) dX3_init_133 (fun H locs hP hS => ?_)
    rw [hk_S] at hP
    have hP : va_P D vwCl (hs_wl b0 sz (hk b0 sz cy [.ref (hs_ad b0 sz 1), .ref (hs_ad b0 sz 6), .ref (hs_ad b0 sz 55), .ref (hs_ad b0 sz 64), .int 0, .int 0] (4) (16) (8)) 65) H := hP
    exact cc_ret hx hb hr hlocks hP hS (Nat.le_of_ble_eq_true rfl) (Nat.le_of_ble_eq_true rfl) dX3_init_136
  have loopC : ∀ (k i : Nat), i + k = 8 → ∀ (H : Heap) (locs : List Loc), va_P D vwCl (hs_wl b0 sz (hk b0 sz cy [.ref (hs_ad b0 sz 1), .ref (hs_ad b0 sz 6), .ref (hs_ad b0 sz 55), .null, .int 0, .int 0] (4) (16) (i)) (56 + i)) H → va_S (hs_CA b0 sz) s.heap H locs → ∀ ls : Array Slot, lv_has ls 2 [(1, .int (nI i)), (0, .ref (hs_ad b0 sz 0))] → W p l e ({ frames := 2, cells := 64, slots := 1004, locals := 43 }) s m [.ref (hs_ad b0 sz 0)].toArray below meth c H locs (55 + i) (676 + 9 * (i)) (MQ below (hs_PostC D (hs_wl b0 sz (hk b0 sz cy (hk_S4 b0 sz) 4 16 8) 65) (hs_CA b0 sz)) [.ref (hs_ad b0 sz 0)].toArray s 64 1004 (hs_CA b0 sz)) (F0 m 96 ls []) := by
    intro k
    induction k with
    | zero =>
      intro i hi H locs hP hS ls hl
      have hie : i = 8 := by omega
      subst hie
      refine lv_iload_n hx hb dX3_init_96 rfl (lv_at hl 0 rfl) ?_
      refine lv_bipush (v := 8) hx hb dX3_init_97 (by decide) ?_
      refine lv_icmp_ge (tgt := 127) hx hb dX3_init_99 (by decide) (fun c1 => ?_) (fun c1 => absurd (show (8 : Int32) ≤ nI 8 by decide) c1)
      exact J127 H locs hP hS ls (lv_sub hl [1] rfl)
    | succ k ih =>
      intro i hi H locs hP hS ls hl
      have hib : i < 8 := by omega
      refine lv_iload_n hx hb dX3_init_96 rfl (lv_at hl 0 rfl) ?_
      refine lv_bipush (v := 8) hx hb dX3_init_97 (by decide) ?_
      refine lv_icmp_ge (tgt := 127) hx hb dX3_init_99 (by decide) (fun c1 => absurd c1 (nI_ge (b := 8) (by omega) (by decide))) (fun c1 => ?_)
      refine lv_aload_n hx hb dX3_init_102 rfl (lv_at hl 1 rfl) ?_
      refine va_get (D := D) (ci := 3) (v := .ref (hs_ad b0 sz 55)) (C := RX3) (T := TX3) (N := 6) hx hb G.2.2.1 in_X3_init_X3 G.2.2.2.1 G.2.2.2.2.1 hP 0 (by rw [hs_wl_at (by omega), hk_0]) rfl 2 (by decide) (G.2.2.1 (.fieldLink RX3 27 "HlcStore" (TX3 2).2.1 (TX3 2).2.2.1) (by decide +kernel)) (fun _ h9 => h9) rfl dX3_init_103 ?_
      refine lv_iload_n hx hb dX3_init_106 rfl (lv_at hl 0 rfl) ?_
      have hP := hs_wl_congr (g := va_up (hk b0 sz cy [.ref (hs_ad b0 sz 1), .ref (hs_ad b0 sz 6), .ref (hs_ad b0 sz 55), .null, .int 0, .int 0] 4 16 i) (56 + i) (.inr (2, [.int 0, .null, .int 0, .int 0, .long 0, .long 0, .long 0, .int 0, .int 0]))) hP (fun j hj => (va_up_ne _ _ (by omega)).symm)
      refine hs_newO G in_X3_init_X2 tyX2 tyX2_ok (ci := 2) (by decide +kernel) (by decide +kernel) (by decide +kernel) rfl hP (n0 := 1) (by omega) (by decide) hsz hS (fs := [.int 0, .null, .int 0, .int 0, .long 0, .long 0, .long 0, .int 0, .int 0]) (by decide) (va_up_self _ _ _) (by show _ + 1 ≤ 64; omega) (by show _ + 9 ≤ 1004; omega) dX3_init_107 (fun H hP hS => ?_)
      refine lv_dup hx hb dX3_init_110 rfl ?_
      refine lv_aload_n hx hb dX3_init_111 rfl (lv_at hl 1 rfl) ?_
      refine va_get (D := D) (ci := 3) (v := .ref (hs_ad b0 sz 1)) (C := RX3) (T := TX3) (N := 6) hx hb G.2.2.1 in_X3_init_X3 G.2.2.2.1 G.2.2.2.2.1 hP 0 (by rw [hs_wl_at (by omega), va_up_ne _ _ (by omega), hk_0]) rfl 0 (by decide) (G.2.2.1 (.fieldLink RX3 11 "HlcStore" (TX3 0).2.1 (TX3 0).2.2.1) (by decide +kernel)) (fun _ h9 => h9) rfl dX3_init_112 ?_
      refine lv_iconst (v := 0) hx hb dX3_init_115 (by decide) ?_
      refine va_aldq hx hb G.2.2.2.2.1 hP 1 3 (by rw [hs_wl_at (by omega), va_up_ne _ _ (by omega), hk_1]) rfl (hs_in (k := 0) (n := 4) (by decide) (by decide)) dX3_init_116 ?_
      show W _ _ _ _ _ _ _ _ _ _ _ _ _ _ _ (F0 m (116 + 1) ls (.ref (hs_ad b0 sz 2) :: [.ref (hs_ad b0 sz (56 + i)), .ref (hs_ad b0 sz (56 + i)), .int (nI i), .ref (hs_ad b0 sz 55)]))
      refine W.sized fun hup => ?_
      have hlow := hs_wl_low hP hS hsz (by decide) (by omega)
      refine hs_callC (n := 1) (As := [.ref (hs_ad b0 sz 2)]) (rest := [.ref (hs_ad b0 sz (56 + i)), .int (nI i), .ref (hs_ad b0 sz 55)]) G hAO hml (k_Tx l D cy b0 sz hb0 _ (56 + i + 1) (56 + i) (hs_ad b0 sz 2) H.size (by omega) _ (va_up_self _ _ _) rfl) gX3_init_X2_init_n31 rfl rfl rfl (by decide +kernel) (by decide +kernel) (by decide +kernel) rfl (by decide +kernel) ⟨Nat.le_of_ble_eq_true rfl, Nat.le_of_ble_eq_true rfl⟩ rfl hl.1 (Nat.le_of_ble_eq_true rfl) ⟨by show _ + 0 ≤ 64; omega, by show _ + 0 ≤ 1004; omega⟩ hP rfl hS (fun _ h => h) rfl dX3_init_117 (fun H locs hP hS _ _ => ?_)
      rw [bx_uu] at hP
      have hP : va_P D vwCl (hs_wl b0 sz (hk b0 sz cy [.ref (hs_ad b0 sz 1), .ref (hs_ad b0 sz 6), .ref (hs_ad b0 sz 55), .null, .int 0, .int 0] 4 16 i) (56 + i + 1)) H := hs_wl_congr hP (fun j hj => by
        by_cases e : j = 56 + i
        · subst e; rw [va_up_self, hk_t hib]; rfl
        · rw [va_up_ne _ _ e])
      refine va_astq hx hb G.2.2.2.2.1 hP (hs_wl_D hb0 _ _) hS 55 5 (56 + i) 2 (r := (RX2, TX2, 9)) (by rw [hs_wl_at (by omega), hk_55]) rfl (by rw [hs_wl_at (by omega), hk_t hib]) rfl (hs_in (k := i) (n := 8) (nI_clamp (by omega)) (hs_inN hib (by decide))) dX3_init_120 (fun H locs hP _ hS => ?_)
      rw [show Int32.toNatClampNeg (nI i) = i from nI_clamp (by omega), hs_wl_set, hk_uc] at hP
      refine lv_iinc (v := nI (i + 1)) (lv' := [(1, .int (nI (i + 1))), (0, .ref (hs_ad b0 sz 0))]) hx hb dX3_init_121 hl (k := 0) rfl (nI_1 i) (by decide) rfl (fun ls hl => ?_)
      refine lv_goto (tgt := 96) hx hb dX3_init_124 (by decide) ?_
      refine W.widen (k := 55 + (i + 1)) (n := 676 + 9 * (i + 1)) (by omega) (by omega) ?_
      exact ih (i + 1) (by omega) H locs hP hS ls hl
  have J85 : ∀ (H : Heap) (locs : List Loc), va_P D vwCl (hs_wl b0 sz (hk b0 sz cy [.ref (hs_ad b0 sz 1), .ref (hs_ad b0 sz 6), .null, .null, .int 0, .int 0] (4) (16) (0)) 55) H → va_S (hs_CA b0 sz) s.heap H locs → ∀ ls : Array Slot, lv_has ls 2 [(0, .ref (hs_ad b0 sz 0))] → W p l e ({ frames := 2, cells := 64, slots := 1004, locals := 43 }) s m [.ref (hs_ad b0 sz 0)].toArray below meth c H locs 54 668 (MQ below (hs_PostC D (hs_wl b0 sz (hk b0 sz cy (hk_S4 b0 sz) 4 16 8) 65) (hs_CA b0 sz)) [.ref (hs_ad b0 sz 0)].toArray s 64 1004 (hs_CA b0 sz)) (F0 m 85 ls []) := by
    intro H locs hP hS ls hl
    refine lv_aload_n hx hb dX3_init_85 rfl (lv_at hl 0 rfl) ?_
    refine lv_bipush (v := 8) hx hb dX3_init_86 (by decide) ?_
    refine hs_newR G (by decide +kernel) hAO.2.2 5 rfl hP (n0 := 1) rfl (by decide) hsz hS 8 (by rw [hk_55, hk_re_0]) (by decide) (by decide) (by decide) (Nat.le_of_ble_eq_true rfl) (Nat.le_of_ble_eq_true rfl) dX3_init_88 (fun H hP hS => ?_)
    refine hs_putF hb0 G in_X3_init_X3 tyX3 tyX3_ok nmX3 (ci := 3) rfl hmn hP hS 0 (by decide) hk_0 2 (by decide) (by decide +kernel) rfl rfl rfl (.ref (hs_ad b0 sz 55)) (.array (.object "HlcStore$Transaction")) (by decide +kernel) rfl rfl (Nat.le_of_ble_eq_true rfl) dX3_init_91 (fun H locs hP hS => ?_)
    rw [hk_S] at hP
    have hP : va_P D vwCl (hs_wl b0 sz (hk b0 sz cy [.ref (hs_ad b0 sz 1), .ref (hs_ad b0 sz 6), .ref (hs_ad b0 sz 55), .null, .int 0, .int 0] (4) (16) (0)) 56) H := hP
    refine lv_iconst (v := 0) hx hb dX3_init_94 (by decide) ?_
    refine lv_istore_n (lv' := [(1, .int 0), (0, .ref (hs_ad b0 sz 0))]) hx hb dX3_init_95 rfl hl (by decide) rfl (fun ls hl => ?_)
    exact loopC 8 0 rfl H locs hP hS ls hl
  have loopB : ∀ (k i : Nat), i + k = 16 → ∀ (H : Heap) (locs : List Loc), va_P D vwCl (hs_wl b0 sz (hk b0 sz cy [.ref (hs_ad b0 sz 1), .ref (hs_ad b0 sz 6), .null, .null, .int 0, .int 0] (4) (i) (0)) (7 + 3 * (i))) H → va_S (hs_CA b0 sz) s.heap H locs → ∀ ls : Array Slot, lv_has ls 2 [(1, .int (nI i)), (0, .ref (hs_ad b0 sz 0))] → W p l e ({ frames := 2, cells := 64, slots := 1004, locals := 43 }) s m [.ref (hs_ad b0 sz 0)].toArray below meth c H locs (6 + 3 * (i)) (28 + 40 * (i)) (MQ below (hs_PostC D (hs_wl b0 sz (hk b0 sz cy (hk_S4 b0 sz) 4 16 8) 65) (hs_CA b0 sz)) [.ref (hs_ad b0 sz 0)].toArray s 64 1004 (hs_CA b0 sz)) (F0 m 49 ls []) := by
    intro k
    induction k with
    | zero =>
      intro i hi H locs hP hS ls hl
      have hie : i = 16 := by omega
      subst hie
      refine lv_iload_n hx hb dX3_init_49 rfl (lv_at hl 0 rfl) ?_
      refine lv_bipush (v := 16) hx hb dX3_init_50 (by decide) ?_
      refine lv_icmp_ge (tgt := 85) hx hb dX3_init_52 (by decide) (fun c1 => ?_) (fun c1 => absurd (show (16 : Int32) ≤ nI 16 by decide) c1)
      exact J85 H locs hP hS ls (lv_sub hl [1] rfl)
    | succ k ih =>
      intro i hi H locs hP hS ls hl
      have hib : i < 16 := by omega
      refine lv_iload_n hx hb dX3_init_49 rfl (lv_at hl 0 rfl) ?_
      refine lv_bipush (v := 16) hx hb dX3_init_50 (by decide) ?_
      refine lv_icmp_ge (tgt := 85) hx hb dX3_init_52 (by decide) (fun c1 => absurd c1 (nI_ge (b := 16) (by omega) (by decide))) (fun c1 => ?_)
      refine lv_aload_n hx hb dX3_init_55 rfl (lv_at hl 1 rfl) ?_
      refine va_get (D := D) (ci := 3) (v := .ref (hs_ad b0 sz 6)) (C := RX3) (T := TX3) (N := 6) hx hb G.2.2.1 in_X3_init_X3 G.2.2.2.1 G.2.2.2.2.1 hP 0 (by rw [hs_wl_at (by omega), hk_0]) rfl 1 (by decide) (G.2.2.1 (.fieldLink RX3 18 "HlcStore" (TX3 1).2.1 (TX3 1).2.2.1) (by decide +kernel)) (fun _ h9 => h9) rfl dX3_init_56 ?_
      refine lv_iload_n hx hb dX3_init_59 rfl (lv_at hl 0 rfl) ?_
      have hP := hs_wl_congr (g := va_up (hk b0 sz cy [.ref (hs_ad b0 sz 1), .ref (hs_ad b0 sz 6), .null, .null, .int 0, .int 0] 4 i 0) (7 + 3 * i) (.inr (0, [.int 0, .null, .null, .null, .int 0, .long 0, .null, .int 0]))) hP (fun j hj => (va_up_ne _ _ (by omega)).symm)
      refine hs_newO G in_X3_init_X0 tyX0 tyX0_ok (ci := 0) (by decide +kernel) (by decide +kernel) (by decide +kernel) rfl hP (n0 := 1) (by omega) (by decide) hsz hS (fs := [.int 0, .null, .null, .null, .int 0, .long 0, .null, .int 0]) (by decide) (va_up_self _ _ _) (by show _ + 1 ≤ 64; omega) (by show _ + 8 ≤ 1004; omega) dX3_init_60 (fun H hP hS => ?_)
      refine lv_dup hx hb dX3_init_63 rfl ?_
      refine lv_iconst (v := 1) hx hb dX3_init_64 (by decide) ?_
      refine lv_iload_n hx hb dX3_init_65 rfl (lv_at hl 0 rfl) ?_
      refine lv_ishl hx hb dX3_init_66 ?_
      refine lv_aload_n hx hb dX3_init_67 rfl (lv_at hl 1 rfl) ?_
      refine va_get (D := D) (ci := 3) (v := .ref (hs_ad b0 sz 1)) (C := RX3) (T := TX3) (N := 6) hx hb G.2.2.1 in_X3_init_X3 G.2.2.2.1 G.2.2.2.2.1 hP 0 (by rw [hs_wl_at (by omega), va_up_ne _ _ (by omega), hk_0]) rfl 0 (by decide) (G.2.2.1 (.fieldLink RX3 11 "HlcStore" (TX3 0).2.1 (TX3 0).2.2.1) (by decide +kernel)) (fun _ h9 => h9) rfl dX3_init_68 ?_
      refine lv_iload_n hx hb dX3_init_71 rfl (lv_at hl 0 rfl) ?_
      refine lv_iconst (v := 4) hx hb dX3_init_72 (by decide) ?_
      refine lv_irem hx hb dX3_init_73 (by decide) ?_
      rw [show nI i - nI i / 4 * 4 = nI (i % 4) from pk_rem (d := 4) (by omega) (by decide) (by decide)]
      have hm4 : i % 4 < 4 := Nat.mod_lt _ (by decide)
      refine va_aldq hx hb G.2.2.2.2.1 hP 1 3 (by rw [hs_wl_at (by omega), va_up_ne _ _ (by omega), hk_1]) rfl (hs_in (k := i % 4) (n := 4) (nI_clamp (by omega)) (hs_inN hm4 (by decide))) dX3_init_74 ?_
      rw [show Int32.toNatClampNeg (nI (i % 4)) = i % 4 from nI_clamp (by omega), show hk_re 4 (fun i => hs_ad b0 sz (2 + i)) (i % 4) = some (hs_ad b0 sz (2 + i % 4)) from if_pos hm4]
      show W _ _ _ _ _ _ _ _ _ _ _ _ _ _ _ (F0 m (74 + 1) ls (.ref (hs_ad b0 sz (2 + i % 4)) :: [.int (hs_bit i), .ref (hs_ad b0 sz (7 + 3 * i)), .ref (hs_ad b0 sz (7 + 3 * i)), .int (nI i), .ref (hs_ad b0 sz 6)]))
      refine W.sized fun hup => ?_
      have hlow := hs_wl_low hP hS hsz (by decide) (by omega)
      refine hs_callC (n := 2) (As := [.int (hs_bit i), .ref (hs_ad b0 sz (2 + i % 4))]) (rest := [.ref (hs_ad b0 sz (7 + 3 * i)), .int (nI i), .ref (hs_ad b0 sz 6)]) G hAO hml (k_Key l D cy b0 sz hb0 _ (7 + 3 * i) (hs_ad b0 sz (2 + i % 4)) H.size (hs_bit i) (by omega) (va_up_self _ _ _) (by rw [va_up_ne _ _ (by omega), show 7 + 3 * i + 1 = 8 + 3 * i by omega]; exact hk_st hib) (by rw [va_up_ne _ _ (by omega), show 7 + 3 * i + 2 = 9 + 3 * i by omega]; exact hk_va hib) (by omega)) gX3_init_X0_init_n22 rfl rfl rfl (by decide +kernel) (by decide +kernel) (by decide +kernel) rfl (by decide +kernel) ⟨Nat.le_of_ble_eq_true rfl, Nat.le_of_ble_eq_true rfl⟩ rfl hl.1 (Nat.le_of_ble_eq_true rfl) ⟨by show _ + 2 ≤ 64; omega, by show _ + 32 ≤ 1004; omega⟩ hP rfl hS (fun _ h => h) rfl dX3_init_75 (fun H locs hP hS _ _ => ?_)
      rw [bx_uu] at hP
      have hP : va_P D vwCl (hs_wl b0 sz (hk b0 sz cy [.ref (hs_ad b0 sz 1), .ref (hs_ad b0 sz 6), .null, .null, .int 0, .int 0] 4 i 0) (7 + 3 * i + 3)) H := hs_wl_congr hP (fun j hj => by
        by_cases e : j = 7 + 3 * i
        · subst e; rw [va_up_self, hk_k hib, hk_key, show 7 + 3 * i + 1 = 8 + 3 * i by omega, show 7 + 3 * i + 2 = 9 + 3 * i by omega]
        · rw [va_up_ne _ _ e])
      refine va_astq hx hb G.2.2.2.2.1 hP (hs_wl_D hb0 _ _) hS 6 4 (7 + 3 * i) 0 (r := (RX0, TX0, 8)) (by rw [hs_wl_at (by omega), hk_6]) rfl (by rw [hs_wl_at (by omega), hk_k hib]) rfl (hs_in (k := i) (n := 16) (nI_clamp (by omega)) (hs_inN hib (by decide))) dX3_init_78 (fun H locs hP _ hS => ?_)
      rw [show Int32.toNatClampNeg (nI i) = i from nI_clamp (by omega), hs_wl_set, hk_ub] at hP
      have hP : va_P D vwCl (hs_wl b0 sz (hk b0 sz cy [.ref (hs_ad b0 sz 1), .ref (hs_ad b0 sz 6), .null, .null, .int 0, .int 0] 4 (i + 1) 0) (7 + 3 * (i + 1))) H := hP
      refine lv_iinc (v := nI (i + 1)) (lv' := [(1, .int (nI (i + 1))), (0, .ref (hs_ad b0 sz 0))]) hx hb dX3_init_79 hl (k := 0) rfl (nI_1 i) (by decide) rfl (fun ls hl => ?_)
      refine lv_goto (tgt := 49) hx hb dX3_init_82 (by decide) ?_
      refine W.widen (k := 6 + 3 * (i + 1)) (n := 28 + 40 * (i + 1)) (by omega) (by omega) ?_
      exact ih (i + 1) (by omega) H locs hP hS ls hl
  have J38 : ∀ (H : Heap) (locs : List Loc), va_P D vwCl (hs_wl b0 sz (hk b0 sz cy [.ref (hs_ad b0 sz 1), .null, .null, .null, .int 0, .int 0] (4) (0) (0)) 6) H → va_S (hs_CA b0 sz) s.heap H locs → ∀ ls : Array Slot, lv_has ls 2 [(0, .ref (hs_ad b0 sz 0))] → W p l e ({ frames := 2, cells := 64, slots := 1004, locals := 43 }) s m [.ref (hs_ad b0 sz 0)].toArray below meth c H locs 5 12 (MQ below (hs_PostC D (hs_wl b0 sz (hk b0 sz cy (hk_S4 b0 sz) 4 16 8) 65) (hs_CA b0 sz)) [.ref (hs_ad b0 sz 0)].toArray s 64 1004 (hs_CA b0 sz)) (F0 m 38 ls []) := by
    intro H locs hP hS ls hl
    refine lv_aload_n hx hb dX3_init_38 rfl (lv_at hl 0 rfl) ?_
    refine lv_bipush (v := 16) hx hb dX3_init_39 (by decide) ?_
    refine hs_newR G (by decide +kernel) hAO.2.1 4 rfl hP (n0 := 1) rfl (by decide) hsz hS 16 (by rw [hk_6, hk_re_0]) (by decide) (by decide) (by decide) (Nat.le_of_ble_eq_true rfl) (Nat.le_of_ble_eq_true rfl) dX3_init_41 (fun H hP hS => ?_)
    refine hs_putF hb0 G in_X3_init_X3 tyX3 tyX3_ok nmX3 (ci := 3) rfl hmn hP hS 0 (by decide) hk_0 1 (by decide) (by decide +kernel) rfl rfl rfl (.ref (hs_ad b0 sz 6)) (.array (.object "HlcStore$Key")) (by decide +kernel) rfl rfl (Nat.le_of_ble_eq_true rfl) dX3_init_44 (fun H locs hP hS => ?_)
    rw [hk_S] at hP
    have hP : va_P D vwCl (hs_wl b0 sz (hk b0 sz cy [.ref (hs_ad b0 sz 1), .ref (hs_ad b0 sz 6), .null, .null, .int 0, .int 0] (4) (0) (0)) 7) H := hP
    refine lv_iconst (v := 0) hx hb dX3_init_47 (by decide) ?_
    refine lv_istore_n (lv' := [(1, .int 0), (0, .ref (hs_ad b0 sz 0))]) hx hb dX3_init_48 rfl hl (by decide) rfl (fun ls hl => ?_)
    exact loopB 16 0 rfl H locs hP hS ls hl
  have loopA : ∀ (k i : Nat), i + k = 4 → ∀ (H : Heap) (locs : List Loc), va_P D vwCl (hs_wl b0 sz (hk b0 sz cy [.ref (hs_ad b0 sz 1), .null, .null, .null, .int 0, .int 0] (i) (0) (0)) (2 + i)) H → va_S (hs_CA b0 sz) s.heap H locs → ∀ ls : Array Slot, lv_has ls 2 [(1, .int (nI i)), (0, .ref (hs_ad b0 sz 0))] → W p l e ({ frames := 2, cells := 64, slots := 1004, locals := 43 }) s m [.ref (hs_ad b0 sz 0)].toArray below meth c H locs (1 + i) (4 + 2 * (i)) (MQ below (hs_PostC D (hs_wl b0 sz (hk b0 sz cy (hk_S4 b0 sz) 4 16 8) 65) (hs_CA b0 sz)) [.ref (hs_ad b0 sz 0)].toArray s 64 1004 (hs_CA b0 sz)) (F0 m 14 ls []) := by
    intro k
    induction k with
    | zero =>
      intro i hi H locs hP hS ls hl
      have hie : i = 4 := by omega
      subst hie
      refine lv_iload_n hx hb dX3_init_14 rfl (lv_at hl 0 rfl) ?_
      refine lv_iconst (v := 4) hx hb dX3_init_15 (by decide) ?_
      refine lv_icmp_ge (tgt := 38) hx hb dX3_init_16 (by decide) (fun c1 => ?_) (fun c1 => absurd (show (4 : Int32) ≤ nI 4 by decide) c1)
      exact J38 H locs hP hS ls (lv_sub hl [1] rfl)
    | succ k ih =>
      intro i hi H locs hP hS ls hl
      have hib : i < 4 := by omega
      refine lv_iload_n hx hb dX3_init_14 rfl (lv_at hl 0 rfl) ?_
      refine lv_iconst (v := 4) hx hb dX3_init_15 (by decide) ?_
      refine lv_icmp_ge (tgt := 38) hx hb dX3_init_16 (by decide) (fun c1 => absurd c1 (nI_ge (b := 4) (by omega) (by decide))) (fun c1 => ?_)
      refine lv_aload_n hx hb dX3_init_19 rfl (lv_at hl 1 rfl) ?_
      refine va_get (D := D) (ci := 3) (v := .ref (hs_ad b0 sz 1)) (C := RX3) (T := TX3) (N := 6) hx hb G.2.2.1 in_X3_init_X3 G.2.2.2.1 G.2.2.2.2.1 hP 0 (by rw [hs_wl_at (by omega), hk_0]) rfl 0 (by decide) (G.2.2.1 (.fieldLink RX3 11 "HlcStore" (TX3 0).2.1 (TX3 0).2.2.1) (by decide +kernel)) (fun _ h9 => h9) rfl dX3_init_20 ?_
      refine lv_iload_n hx hb dX3_init_23 rfl (lv_at hl 0 rfl) ?_
      refine hs_newO G in_X3_init_X1 tyX1 tyX1_ok (ci := 1) (by decide +kernel) (by decide +kernel) (by decide +kernel) rfl hP (n0 := 1) (by omega) (by decide) hsz hS (fs := [.int 0, .long 0]) (by decide) (hk_n hib) (by show _ + 1 ≤ 64; omega) (by show _ + 2 ≤ 1004; omega) dX3_init_24 (fun H hP hS => ?_)
      refine lv_dup hx hb dX3_init_27 rfl ?_
      refine hs_callC (n := 0) (As := []) (rest := [.ref (hs_ad b0 sz (2 + i)), .int (nI i), .ref (hs_ad b0 sz 1)]) G hAO hml (k_Node l D cy (hs_CA b0 sz) (hs_ad b0 sz (2 + i)) _ H.size) gX3_init_X1_init_n15 rfl rfl rfl (by decide +kernel) (by decide +kernel) (by decide +kernel) rfl (by decide +kernel) ⟨Nat.le_of_ble_eq_true rfl, Nat.le_of_ble_eq_true rfl⟩ rfl hl.1 (Nat.le_of_ble_eq_true rfl) ⟨by show _ + 0 ≤ 64; omega, by show _ + 0 ≤ 1004; omega⟩ hP rfl hS (fun _ h => h) rfl dX3_init_28 (fun H locs hP hS _ _ => ?_)
      refine va_astq hx hb G.2.2.2.2.1 hP (hs_wl_D hb0 _ _) hS 1 3 (2 + i) 1 (r := (RX1, TX1, 2)) (by rw [hs_wl_at (by omega), hk_1]) rfl (by rw [hs_wl_at (by omega), hk_n hib]) rfl (hs_in (k := i) (n := 4) (nI_clamp (by omega)) (hs_inN hib (by decide))) dX3_init_31 (fun H locs hP _ hS => ?_)
      rw [show Int32.toNatClampNeg (nI i) = i from nI_clamp (by omega), hs_wl_set, hk_ua] at hP
      refine lv_iinc (v := nI (i + 1)) (lv' := [(1, .int (nI (i + 1))), (0, .ref (hs_ad b0 sz 0))]) hx hb dX3_init_32 hl (k := 0) rfl (nI_1 i) (by decide) rfl (fun ls hl => ?_)
      refine lv_goto (tgt := 14) hx hb dX3_init_35 (by decide) ?_
      refine W.widen (k := 1 + (i + 1)) (n := 4 + 2 * (i + 1)) (by omega) (by omega) ?_
      exact ih (i + 1) (by omega) H locs hP hS ls hl
  refine lv_aload_n hx hb dX3_init_0 rfl (lv_at hl 0 rfl) ?_
  refine hs_super G (hml.trans hl.1.symm) (by decide +kernel) (by decide +kernel) (by decide +kernel) (Nat.le_of_ble_eq_true rfl) (Nat.le_of_ble_eq_true rfl) dX3_init_1 ?_
  refine lv_aload_n hx hb dX3_init_4 rfl (lv_at hl 0 rfl) ?_
  refine lv_iconst (v := 4) hx hb dX3_init_5 (by decide) ?_
  refine hs_newR G (by decide +kernel) hAO.1 3 rfl hP (n0 := 1) rfl (by decide) hsz hS 4 (by rw [hk_1, hk_re_0]) (by decide) (by decide) (by decide) (Nat.le_of_ble_eq_true rfl) (Nat.le_of_ble_eq_true rfl) dX3_init_6 (fun H hP hS => ?_)
  refine hs_putF hb0 G in_X3_init_X3 tyX3 tyX3_ok nmX3 (ci := 3) rfl hmn hP hS 0 (by decide) hk_0 0 (by decide) (by decide +kernel) rfl rfl rfl (.ref (hs_ad b0 sz 1)) (.array (.object "HlcStore$Node")) (by decide +kernel) rfl rfl (Nat.le_of_ble_eq_true rfl) dX3_init_9 (fun H locs hP hS => ?_)
  rw [hk_S] at hP
  have hP : va_P D vwCl (hs_wl b0 sz (hk b0 sz cy [.ref (hs_ad b0 sz 1), .null, .null, .null, .int 0, .int 0] (0) (0) (0)) 2) H := hP
  refine lv_iconst (v := 0) hx hb dX3_init_12 (by decide) ?_
  refine lv_istore_n (lv' := [(1, .int 0), (0, .ref (hs_ad b0 sz 0))]) hx hb dX3_init_13 rfl hl (by decide) rfl (fun ls hl => ?_)
  exact loopA 4 0 rfl H locs hP hS ls hl
theorem hs_arrV {cA : ClassId} {n : Nat} {f g : Nat → Value} (h : ∀ i, i < n → f i = g i) : arrV cA n f = arrV cA n g := by
  unfold arrV
  congr 2
  funext j
  exact h j.val j.isLt
theorem hk_ad_n {b0 sz i : Nat} (h : i < 4) : hk_ad b0 sz (5 + i) = hs_ad b0 sz (2 + i) := by
  unfold hk_ad hk_pi
  rw [if_neg (by omega), if_neg (by omega), if_neg (by omega), if_neg (by omega), if_neg (by omega), if_pos (by omega), show 2 + (5 + i - 5) = 2 + i by omega]
theorem hk_ad_k {b0 sz i : Nat} (h : i < 16) : hk_ad b0 sz (9 + i) = hs_ad b0 sz (7 + 3 * i) := by
  unfold hk_ad hk_pi
  rw [if_neg (by omega), if_neg (by omega), if_neg (by omega), if_neg (by omega), if_neg (by omega), if_neg (by omega), if_pos (by omega), show 9 + i - 9 = i by omega]
theorem hk_ad_s {b0 sz i : Nat} (h : i < 16) : hk_ad b0 sz (25 + i) = hs_ad b0 sz (8 + 3 * i) := by
  unfold hk_ad hk_pi
  rw [if_neg (by omega), if_neg (by omega), if_neg (by omega), if_neg (by omega), if_neg (by omega), if_neg (by omega), if_neg (by omega), if_pos (by omega), show 25 + i - 25 = i by omega]
theorem hk_ad_v {b0 sz i : Nat} (h : i < 16) : hk_ad b0 sz (41 + i) = hs_ad b0 sz (9 + 3 * i) := by
  unfold hk_ad hk_pi
  rw [if_neg (by omega), if_neg (by omega), if_neg (by omega), if_neg (by omega), if_neg (by omega), if_neg (by omega), if_neg (by omega), if_neg (by omega), if_pos (by omega), show 41 + i - 41 = i by omega]
theorem hk_ad_t {b0 sz i : Nat} (h : i < 8) : hk_ad b0 sz (57 + i) = hs_ad b0 sz (56 + i) := by
  unfold hk_ad hk_pi
  rw [if_neg (by omega), if_neg (by omega), if_neg (by omega), if_neg (by omega), if_neg (by omega), if_neg (by omega), if_neg (by omega), if_neg (by omega), if_neg (by omega), show 57 + i - 57 = i by omega]
theorem hs_at_q {D : va_G} {a : Nat} {cA : ClassId} {n : Nat} {f g : Nat → Option Nat} {H : Heap} (h : va_at D vwCl (a, .inl (cA, n, .inr (.inr (.inr (.inr f))))) H) (e : ∀ i, i < n → f i = g i) : va_at D vwCl (a, .inl (cA, n, .inr (.inr (.inr (.inr g))))) H := by
  show H[a]? = some (vp_cell cA (n, .inr (.inr (.inr (.inr g)))))
  rw [vp_cell_q, ← hs_arrV (f := fun j => va_rf (f j)) (fun i hi => by rw [e i hi]), ← vp_cell_q]
  exact h
set_option maxHeartbeats 4000000 in
set_option maxRecDepth 100000 in
theorem hc_born {D : va_G} {cy : Nat → ClassId} {b0 sz : Nat} {H : Heap} (hP : va_P D vwCl (hs_wl b0 sz (hk b0 sz cy (hk_S4 b0 sz) 4 16 8) 65) H) : va_P D vwCl (hc_mem (hk_ad b0 sz) cy HM.z0) H := by
  have at' : ∀ j, j < 65 → va_at D vwCl (hs_ad b0 sz j, hk b0 sz cy (hk_S4 b0 sz) 4 16 8 j) H := fun j hj => hP j _ (hs_wl_at hj)
  intro k q hq
  by_cases hk65 : k < 65
  · rw [hc_mem, hs_rm hk65] at hq
    cases hq
    by_cases a1 : k < 5
    · have e : hc_cell (hk_ad b0 sz) cy HM.z0 k = hc_top (hk_ad b0 sz) cy HM.z0 k := by unfold hc_cell; rw [if_pos a1]
      rw [e]
      have : k = 0 ∨ k = 1 ∨ k = 2 ∨ k = 3 ∨ k = 4 := by omega
      rcases this with rfl | rfl | rfl | rfl | rfl
      · exact at' 0 (by decide)
      · have h := at' 1 (by decide)
        rw [hk_1] at h
        exact hs_at_q h (fun i hi => by rw [hk_re, if_pos hi, hk_ad_n hi])
      · have h := at' 6 (by decide)
        rw [hk_6] at h
        exact hs_at_q h (fun i hi => by rw [hk_re, if_pos hi, hk_ad_k hi])
      · have h := at' 55 (by decide)
        rw [hk_55] at h
        exact hs_at_q h (fun i hi => by rw [hk_re, if_pos hi, hk_ad_t hi])
      · have h := at' 64 (by decide)
        rw [hk_64] at h
        exact h
    · by_cases a2 : k < 9
      · obtain ⟨i, rfl⟩ : ∃ i, k = 5 + i := ⟨k - 5, by omega⟩
        have h := at' (2 + i) (by omega)
        rw [hk_n (by omega)] at h
        rw [hc_c_node (by omega)]
        show va_at D vwCl (hk_ad b0 sz (5 + i), _) H
        rw [hk_ad_n (by omega)]
        exact h
      · by_cases a3 : k < 25
        · obtain ⟨i, rfl⟩ : ∃ i, k = 9 + i := ⟨k - 9, by omega⟩
          have hi : i < 16 := by omega
          have h := at' (7 + 3 * i) (by omega)
          rw [hk_k hi] at h
          rw [hc_c_key hi]
          show va_at D vwCl (hk_ad b0 sz (9 + i), _) H
          rw [hk_ad_k hi]
          have e : hc_keyL (hk_ad b0 sz) HM.z0 i = hk_key b0 sz i := by
            show [Value.int (hs_bit i), .ref (hk_ad b0 sz (5 + i % 4)), .ref (hk_ad b0 sz (25 + i)), .ref (hk_ad b0 sz (41 + i)), .int (nI 0), .long 0, .null, .int 0] = _
            rw [hk_ad_n (Nat.mod_lt _ (by decide)), hk_ad_s hi, hk_ad_v hi]
            rfl
          rw [e]; exact h
        · by_cases a4 : k < 41
          · obtain ⟨i, rfl⟩ : ∃ i, k = 25 + i := ⟨k - 25, by omega⟩
            have hi : i < 16 := by omega
            have h := at' (8 + 3 * i) (by omega)
            rw [hk_st hi] at h
            have e : hc_cell (hk_ad b0 sz) cy HM.z0 (25 + i) = .inl (cy 1, 16, .inr (.inl (hc_stA HM.z0 i))) := by
              simp [hc_cell, show ¬ 25 + i < 5 by omega, show ¬ 25 + i < 9 by omega, show ¬ 25 + i < 25 by omega, show 25 + i < 41 by omega]
            rw [e]
            show va_at D vwCl (hk_ad b0 sz (25 + i), _) H
            rw [hk_ad_s hi]
            exact h
          · by_cases a5 : k < 57
            · obtain ⟨i, rfl⟩ : ∃ i, k = 41 + i := ⟨k - 41, by omega⟩
              have hi : i < 16 := by omega
              have h := at' (9 + 3 * i) (by omega)
              rw [hk_va hi] at h
              have e : hc_cell (hk_ad b0 sz) cy HM.z0 (41 + i) = .inl (cy 0, 16, .inl (hc_vaA HM.z0 i)) := by
                simp [hc_cell, show ¬ 41 + i < 5 by omega, show ¬ 41 + i < 9 by omega, show ¬ 41 + i < 25 by omega, show ¬ 41 + i < 41 by omega, show 41 + i < 57 by omega]
              rw [e]
              show va_at D vwCl (hk_ad b0 sz (41 + i), _) H
              rw [hk_ad_v hi]
              exact h
            · obtain ⟨i, rfl⟩ : ∃ i, k = 57 + i := ⟨k - 57, by omega⟩
              have hi : i < 8 := by omega
              have h := at' (56 + i) (by omega)
              rw [hk_t hi] at h
              rw [hc_c_tx]
              show va_at D vwCl (hk_ad b0 sz (57 + i), _) H
              rw [hk_ad_t hi]
              have e : hc_txL (hk_ad b0 sz) HM.z0 i = hk_tx b0 sz := by
                show [Value.int 0, .ref (hk_ad b0 sz (5 + 0)), .int 0, .int (nI 0), .long 0, .long 0, .long 0, .int (hs_mask (fun _ => false)), .int 0] = _
                rw [hk_ad_n (by decide), hs_mask_0]
                rfl
              rw [e]; exact h
  · simp [hc_mem, hk65] at hq


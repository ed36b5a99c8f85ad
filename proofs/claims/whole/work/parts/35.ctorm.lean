def hm_Z (cy : Nat → ClassId) (j : Nat) : va_E := match j with
  | 1 => .inl (cy 0, 4, .inl (HM.z0.rd))
  | 2 => .inl (cy 1, 4, .inr (.inl (HM.z0.ck)))
  | 3 => .inl (cy 0, 8, .inl (HM.z0.ph))
  | 4 => .inl (cy 0, 8, .inl (hm_gt HM.z0))
  | 5 => .inl (cy 0, 8, .inl (HM.z0.bt))
  | 6 => .inl (cy 1, 8, .inr (.inl (hm_bi HM.z0)))
  | 7 => .inl (cy 1, 8, .inr (.inl (HM.z0.rs)))
  | 8 => .inl (cy 1, 8, .inr (.inl (HM.z0.ws)))
  | 9 => .inl (cy 1, 8, .inr (.inl (HM.z0.lm)))
  | 10 => .inl (cy 2, 8, .inl (HM.z0.hu))
  | 11 => .inl (cy 2, 128, .inl (hm_se HM.z0))
  | 12 => .inl (cy 1, 512, .inr (.inl (hm_cm HM.z0)))
  | 13 => .inl (cy 1, 16, .inr (.inl (HM.z0.lr)))
  | 14 => .inl (cy 0, 16, .inl (hm_hd HM.z0))
  | 15 => .inl (cy 0, 16, .inl (HM.z0.pl))
  | 16 => .inl (cy 0, 256, .inl (hm_vk HM.z0))
  | 17 => .inl (cy 1, 256, .inr (.inl (hm_va HM.z0)))
  | 18 => .inl (cy 0, 256, .inl (hm_vv HM.z0))
  | _ => .inl (cy 0, 0, .inl (fun _ => 0))
def hm_f0 : List Value := [.null, .null, .null, .null, .null, .null, .null, .null, .null, .null, .null, .long 0, .int 0, .null, .null, .null, .null, .int 0, .null, .null, .null]
theorem in_X4_init_X4 : ∀ w ∈ u_ws RX4 TX4 21, w ∈ wsX4_init := by decide +kernel
set_option maxHeartbeats 4000000 in
set_option maxRecDepth 100000 in
/-- the reference's constructor -/
theorem r_init (l : Launch) (D : va_G) (cy : Nat → ClassId) (b0 sz : Nat) (hb0 : b0 < sz) : Cc l yX4_init wsX4_init ({ frames := 1, cells := 18, slots := 1528, locals := 12 }) D cy (hs_CA b0 sz) [.ref (hs_ad b0 sz 0)] (hs_wl b0 sz (va_up (hm_Z cy) 0 (.inr (4, hm_f0))) 1) sz (hs_wl b0 sz (va_up (hm_Z cy) 0 (.inr (4, hm_objL (hs_ad b0 sz) HM.z0))) 19) 18 1528 := by
  refine cc_of (cc := cX4_init) (maxL := 1) (ret := none) rfl (by decide) (Nat.le_of_ble_eq_true rfl) ?_
  intro p e s m below meth c ls G hAO hmn hx hb hml hr hlocks hP hsz0 hS hl
  have hl : lv_has ls 1 [(0, .ref (hs_ad b0 sz 0))] := hl
  have hsz : s.heap.size + 1 = sz + 1 := by rw [hsz0]
  refine lv_aload_n hx hb dX4_init_0 rfl (lv_at hl 0 rfl) ?_
  refine hs_super G (hml.trans hl.1.symm) (by decide +kernel) (by decide +kernel) (by decide +kernel) (Nat.le_of_ble_eq_true rfl) (Nat.le_of_ble_eq_true rfl) dX4_init_1 ?_
  refine lv_aload_n hx hb dX4_init_4 rfl (lv_at hl 0 rfl) ?_
  refine lv_iconst (v := 4) hx hb dX4_init_5 (by decide) ?_
  refine hs_newA (atype := .int) (ty := .int) G rfl (by decide +kernel) 0 rfl (fun _ _ h => h) hP (n0 := 1) rfl (by decide) hsz hS 4 (4, .inl (HM.z0.rd)) (fun _ => rfl) (by rw [va_up_ne _ _ (by decide)]; rfl) (by decide) (by decide) (by decide) (Nat.le_of_ble_eq_true rfl) (Nat.le_of_ble_eq_true rfl) dX4_init_6 (fun H hP hS => ?_)
  refine hs_putF hb0 G in_X4_init_X4 tyX4 tyX4_ok nmX4 (ci := 4) rfl hmn hP hS 0 (by decide) (va_up_self _ _ _) 0 (by decide) (by decide +kernel) rfl rfl rfl (.ref (hs_ad b0 sz 1)) (.array .int) (by decide +kernel) rfl rfl (Nat.le_of_ble_eq_true rfl) dX4_init_8 (fun H locs hP hS => ?_)
  rw [bx_uu] at hP
  refine lv_aload_n hx hb dX4_init_11 rfl (lv_at hl 0 rfl) ?_
  refine lv_iconst (v := 4) hx hb dX4_init_12 (by decide) ?_
  refine hs_newA (atype := .long) (ty := .long) G rfl (by decide +kernel) 1 rfl (fun _ _ h => h) hP (n0 := 1) rfl (by decide) hsz hS 4 (4, .inr (.inl (HM.z0.ck))) (fun _ => rfl) (by rw [va_up_ne _ _ (by decide)]; rfl) (by decide) (by decide) (by decide) (Nat.le_of_ble_eq_true rfl) (Nat.le_of_ble_eq_true rfl) dX4_init_13 (fun H hP hS => ?_)
  refine hs_putF hb0 G in_X4_init_X4 tyX4 tyX4_ok nmX4 (ci := 4) rfl hmn hP hS 0 (by decide) (va_up_self _ _ _) 1 (by decide) (by decide +kernel) rfl rfl rfl (.ref (hs_ad b0 sz 2)) (.array .long) (by decide +kernel) rfl rfl (Nat.le_of_ble_eq_true rfl) dX4_init_15 (fun H locs hP hS => ?_)
  rw [bx_uu] at hP
  refine lv_aload_n hx hb dX4_init_18 rfl (lv_at hl 0 rfl) ?_
  refine lv_bipush (v := 8) hx hb dX4_init_19 (by decide) ?_
  refine hs_newA (atype := .int) (ty := .int) G rfl (by decide +kernel) 0 rfl (fun _ _ h => h) hP (n0 := 1) rfl (by decide) hsz hS 8 (8, .inl (HM.z0.ph)) (fun _ => rfl) (by rw [va_up_ne _ _ (by decide)]; rfl) (by decide) (by decide) (by decide) (Nat.le_of_ble_eq_true rfl) (Nat.le_of_ble_eq_true rfl) dX4_init_21 (fun H hP hS => ?_)
  refine hs_putF hb0 G in_X4_init_X4 tyX4 tyX4_ok nmX4 (ci := 4) rfl hmn hP hS 0 (by decide) (va_up_self _ _ _) 2 (by decide) (by decide +kernel) rfl rfl rfl (.ref (hs_ad b0 sz 3)) (.array .int) (by decide +kernel) rfl rfl (Nat.le_of_ble_eq_true rfl) dX4_init_23 (fun H locs hP hS => ?_)
  rw [bx_uu] at hP
  refine lv_aload_n hx hb dX4_init_26 rfl (lv_at hl 0 rfl) ?_
  refine lv_bipush (v := 8) hx hb dX4_init_27 (by decide) ?_
  refine hs_newA (atype := .int) (ty := .int) G rfl (by decide +kernel) 0 rfl (fun _ _ h => h) hP (n0 := 1) rfl (by decide) hsz hS 8 (8, .inl (hm_gt HM.z0)) (fun _ => rfl) (by rw [va_up_ne _ _ (by decide)]; rfl) (by decide) (by decide) (by decide) (Nat.le_of_ble_eq_true rfl) (Nat.le_of_ble_eq_true rfl) dX4_init_29 (fun H hP hS => ?_)
  refine hs_putF hb0 G in_X4_init_X4 tyX4 tyX4_ok nmX4 (ci := 4) rfl hmn hP hS 0 (by decide) (va_up_self _ _ _) 3 (by decide) (by decide +kernel) rfl rfl rfl (.ref (hs_ad b0 sz 4)) (.array .int) (by decide +kernel) rfl rfl (Nat.le_of_ble_eq_true rfl) dX4_init_31 (fun H locs hP hS => ?_)
  rw [bx_uu] at hP
  refine lv_aload_n hx hb dX4_init_34 rfl (lv_at hl 0 rfl) ?_
  refine lv_bipush (v := 8) hx hb dX4_init_35 (by decide) ?_
  refine hs_newA (atype := .int) (ty := .int) G rfl (by decide +kernel) 0 rfl (fun _ _ h => h) hP (n0 := 1) rfl (by decide) hsz hS 8 (8, .inl (HM.z0.bt)) (fun _ => rfl) (by rw [va_up_ne _ _ (by decide)]; rfl) (by decide) (by decide) (by decide) (Nat.le_of_ble_eq_true rfl) (Nat.le_of_ble_eq_true rfl) dX4_init_37 (fun H hP hS => ?_)
  refine hs_putF hb0 G in_X4_init_X4 tyX4 tyX4_ok nmX4 (ci := 4) rfl hmn hP hS 0 (by decide) (va_up_self _ _ _) 4 (by decide) (by decide +kernel) rfl rfl rfl (.ref (hs_ad b0 sz 5)) (.array .int) (by decide +kernel) rfl rfl (Nat.le_of_ble_eq_true rfl) dX4_init_39 (fun H locs hP hS => ?_)
  rw [bx_uu] at hP
  refine lv_aload_n hx hb dX4_init_42 rfl (lv_at hl 0 rfl) ?_
  refine lv_bipush (v := 8) hx hb dX4_init_43 (by decide) ?_
  refine hs_newA (atype := .long) (ty := .long) G rfl (by decide +kernel) 1 rfl (fun _ _ h => h) hP (n0 := 1) rfl (by decide) hsz hS 8 (8, .inr (.inl (hm_bi HM.z0))) (fun _ => rfl) (by rw [va_up_ne _ _ (by decide)]; rfl) (by decide) (by decide) (by decide) (Nat.le_of_ble_eq_true rfl) (Nat.le_of_ble_eq_true rfl) dX4_init_45 (fun H hP hS => ?_)
  refine hs_putF hb0 G in_X4_init_X4 tyX4 tyX4_ok nmX4 (ci := 4) rfl hmn hP hS 0 (by decide) (va_up_self _ _ _) 5 (by decide) (by decide +kernel) rfl rfl rfl (.ref (hs_ad b0 sz 6)) (.array .long) (by decide +kernel) rfl rfl (Nat.le_of_ble_eq_true rfl) dX4_init_47 (fun H locs hP hS => ?_)
  rw [bx_uu] at hP
  refine lv_aload_n hx hb dX4_init_50 rfl (lv_at hl 0 rfl) ?_
  refine lv_bipush (v := 8) hx hb dX4_init_51 (by decide) ?_
  refine hs_newA (atype := .long) (ty := .long) G rfl (by decide +kernel) 1 rfl (fun _ _ h => h) hP (n0 := 1) rfl (by decide) hsz hS 8 (8, .inr (.inl (HM.z0.rs))) (fun _ => rfl) (by rw [va_up_ne _ _ (by decide)]; rfl) (by decide) (by decide) (by decide) (Nat.le_of_ble_eq_true rfl) (Nat.le_of_ble_eq_true rfl) dX4_init_53 (fun H hP hS => ?_)
  refine hs_putF hb0 G in_X4_init_X4 tyX4 tyX4_ok nmX4 (ci := 4) rfl hmn hP hS 0 (by decide) (va_up_self _ _ _) 6 (by decide) (by decide +kernel) rfl rfl rfl (.ref (hs_ad b0 sz 7)) (.array .long) (by decide +kernel) rfl rfl (Nat.le_of_ble_eq_true rfl) dX4_init_55 (fun H locs hP hS => ?_)
  rw [bx_uu] at hP
  refine lv_aload_n hx hb dX4_init_58 rfl (lv_at hl 0 rfl) ?_
  refine lv_bipush (v := 8) hx hb dX4_init_59 (by decide) ?_
  refine hs_newA (atype := .long) (ty := .long) G rfl (by decide +kernel) 1 rfl (fun _ _ h => h) hP (n0 := 1) rfl (by decide) hsz hS 8 (8, .inr (.inl (HM.z0.ws))) (fun _ => rfl) (by rw [va_up_ne _ _ (by decide)]; rfl) (by decide) (by decide) (by decide) (Nat.le_of_ble_eq_true rfl) (Nat.le_of_ble_eq_true rfl) dX4_init_61 (fun H hP hS => ?_)
  refine hs_putF hb0 G in_X4_init_X4 tyX4 tyX4_ok nmX4 (ci := 4) rfl hmn hP hS 0 (by decide) (va_up_self _ _ _) 7 (by decide) (by decide +kernel) rfl rfl rfl (.ref (hs_ad b0 sz 8)) (.array .long) (by decide +kernel) rfl rfl (Nat.le_of_ble_eq_true rfl) dX4_init_63 (fun H locs hP hS => ?_)
  rw [bx_uu] at hP
  refine lv_aload_n hx hb dX4_init_66 rfl (lv_at hl 0 rfl) ?_
  refine lv_bipush (v := 8) hx hb dX4_init_67 (by decide) ?_
  refine hs_newA (atype := .long) (ty := .long) G rfl (by decide +kernel) 1 rfl (fun _ _ h => h) hP (n0 := 1) rfl (by decide) hsz hS 8 (8, .inr (.inl (HM.z0.lm))) (fun _ => rfl) (by rw [va_up_ne _ _ (by decide)]; rfl) (by decide) (by decide) (by decide) (Nat.le_of_ble_eq_true rfl) (Nat.le_of_ble_eq_true rfl) dX4_init_69 (fun H hP hS => ?_)
  refine hs_putF hb0 G in_X4_init_X4 tyX4 tyX4_ok nmX4 (ci := 4) rfl hmn hP hS 0 (by decide) (va_up_self _ _ _) 8 (by decide) (by decide +kernel) rfl rfl rfl (.ref (hs_ad b0 sz 9)) (.array .long) (by decide +kernel) rfl rfl (Nat.le_of_ble_eq_true rfl) dX4_init_71 (fun H locs hP hS => ?_)
  rw [bx_uu] at hP
  refine lv_aload_n hx hb dX4_init_74 rfl (lv_at hl 0 rfl) ?_
  refine lv_bipush (v := 8) hx hb dX4_init_75 (by decide) ?_
  refine hs_newA (atype := .boolean) (ty := .boolean) G rfl (by decide +kernel) 2 rfl (fun _ _ h => h) hP (n0 := 1) rfl (by decide) hsz hS 8 (8, .inl (HM.z0.hu)) (fun _ => rfl) (by rw [va_up_ne _ _ (by decide)]; rfl) (by decide) (by decide) (by decide) (Nat.le_of_ble_eq_true rfl) (Nat.le_of_ble_eq_true rfl) dX4_init_77 (fun H hP hS => ?_)
  refine hs_putF hb0 G in_X4_init_X4 tyX4 tyX4_ok nmX4 (ci := 4) rfl hmn hP hS 0 (by decide) (va_up_self _ _ _) 9 (by decide) (by decide +kernel) rfl rfl rfl (.ref (hs_ad b0 sz 10)) (.array .boolean) (by decide +kernel) rfl rfl (Nat.le_of_ble_eq_true rfl) dX4_init_79 (fun H locs hP hS => ?_)
  rw [bx_uu] at hP
  refine lv_aload_n hx hb dX4_init_82 rfl (lv_at hl 0 rfl) ?_
  refine lv_sipush (v := 128) hx hb dX4_init_83 (by decide) ?_
  refine hs_newA (atype := .boolean) (ty := .boolean) G rfl (by decide +kernel) 2 rfl (fun _ _ h => h) hP (n0 := 1) rfl (by decide) hsz hS 128 (128, .inl (hm_se HM.z0)) (fun _ => rfl) (by rw [va_up_ne _ _ (by decide)]; rfl) (by decide) (by decide) (by decide) (Nat.le_of_ble_eq_true rfl) (Nat.le_of_ble_eq_true rfl) dX4_init_86 (fun H hP hS => ?_)
  refine hs_putF hb0 G in_X4_init_X4 tyX4 tyX4_ok nmX4 (ci := 4) rfl hmn hP hS 0 (by decide) (va_up_self _ _ _) 10 (by decide) (by decide +kernel) rfl rfl rfl (.ref (hs_ad b0 sz 11)) (.array .boolean) (by decide +kernel) rfl rfl (Nat.le_of_ble_eq_true rfl) dX4_init_88 (fun H locs hP hS => ?_)
  rw [bx_uu] at hP
  refine lv_aload_n hx hb dX4_init_91 rfl (lv_at hl 0 rfl) ?_
  refine lv_sipush (v := 512) hx hb dX4_init_92 (by decide) ?_
  refine hs_newA (atype := .long) (ty := .long) G rfl (by decide +kernel) 1 rfl (fun _ _ h => h) hP (n0 := 1) rfl (by decide) hsz hS 512 (512, .inr (.inl (hm_cm HM.z0))) (fun _ => rfl) (by rw [va_up_ne _ _ (by decide)]; rfl) (by decide) (by decide) (by decide) (Nat.le_of_ble_eq_true rfl) (Nat.le_of_ble_eq_true rfl) dX4_init_95 (fun H hP hS => ?_)
  refine hs_putF hb0 G in_X4_init_X4 tyX4 tyX4_ok nmX4 (ci := 4) rfl hmn hP hS 0 (by decide) (va_up_self _ _ _) 13 (by decide) (by decide +kernel) rfl rfl rfl (.ref (hs_ad b0 sz 12)) (.array .long) (by decide +kernel) rfl rfl (Nat.le_of_ble_eq_true rfl) dX4_init_97 (fun H locs hP hS => ?_)
  rw [bx_uu] at hP
  refine lv_aload_n hx hb dX4_init_100 rfl (lv_at hl 0 rfl) ?_
  refine lv_bipush (v := 16) hx hb dX4_init_101 (by decide) ?_
  refine hs_newA (atype := .long) (ty := .long) G rfl (by decide +kernel) 1 rfl (fun _ _ h => h) hP (n0 := 1) rfl (by decide) hsz hS 16 (16, .inr (.inl (HM.z0.lr))) (fun _ => rfl) (by rw [va_up_ne _ _ (by decide)]; rfl) (by decide) (by decide) (by decide) (Nat.le_of_ble_eq_true rfl) (Nat.le_of_ble_eq_true rfl) dX4_init_103 (fun H hP hS => ?_)
  refine hs_putF hb0 G in_X4_init_X4 tyX4 tyX4_ok nmX4 (ci := 4) rfl hmn hP hS 0 (by decide) (va_up_self _ _ _) 14 (by decide) (by decide +kernel) rfl rfl rfl (.ref (hs_ad b0 sz 13)) (.array .long) (by decide +kernel) rfl rfl (Nat.le_of_ble_eq_true rfl) dX4_init_105 (fun H locs hP hS => ?_)
  rw [bx_uu] at hP
  refine lv_aload_n hx hb dX4_init_108 rfl (lv_at hl 0 rfl) ?_
  refine lv_bipush (v := 16) hx hb dX4_init_109 (by decide) ?_
  refine hs_newA (atype := .int) (ty := .int) G rfl (by decide +kernel) 0 rfl (fun _ _ h => h) hP (n0 := 1) rfl (by decide) hsz hS 16 (16, .inl (hm_hd HM.z0)) (fun _ => rfl) (by rw [va_up_ne _ _ (by decide)]; rfl) (by decide) (by decide) (by decide) (Nat.le_of_ble_eq_true rfl) (Nat.le_of_ble_eq_true rfl) dX4_init_111 (fun H hP hS => ?_)
  refine hs_putF hb0 G in_X4_init_X4 tyX4 tyX4_ok nmX4 (ci := 4) rfl hmn hP hS 0 (by decide) (va_up_self _ _ _) 15 (by decide) (by decide +kernel) rfl rfl rfl (.ref (hs_ad b0 sz 14)) (.array .int) (by decide +kernel) rfl rfl (Nat.le_of_ble_eq_true rfl) dX4_init_113 (fun H locs hP hS => ?_)
  rw [bx_uu] at hP
  refine lv_aload_n hx hb dX4_init_116 rfl (lv_at hl 0 rfl) ?_
  refine lv_bipush (v := 16) hx hb dX4_init_117 (by decide) ?_
  refine hs_newA (atype := .int) (ty := .int) G rfl (by decide +kernel) 0 rfl (fun _ _ h => h) hP (n0 := 1) rfl (by decide) hsz hS 16 (16, .inl (HM.z0.pl)) (fun _ => rfl) (by rw [va_up_ne _ _ (by decide)]; rfl) (by decide) (by decide) (by decide) (Nat.le_of_ble_eq_true rfl) (Nat.le_of_ble_eq_true rfl) dX4_init_119 (fun H hP hS => ?_)
  refine hs_putF hb0 G in_X4_init_X4 tyX4 tyX4_ok nmX4 (ci := 4) rfl hmn hP hS 0 (by decide) (va_up_self _ _ _) 16 (by decide) (by decide +kernel) rfl rfl rfl (.ref (hs_ad b0 sz 15)) (.array .int) (by decide +kernel) rfl rfl (Nat.le_of_ble_eq_true rfl) dX4_init_121 (fun H locs hP hS => ?_)
  rw [bx_uu] at hP
  refine lv_aload_n hx hb dX4_init_124 rfl (lv_at hl 0 rfl) ?_
  refine lv_sipush (v := 256) hx hb dX4_init_125 (by decide) ?_
  refine hs_newA (atype := .int) (ty := .int) G rfl (by decide +kernel) 0 rfl (fun _ _ h => h) hP (n0 := 1) rfl (by decide) hsz hS 256 (256, .inl (hm_vk HM.z0)) (fun _ => rfl) (by rw [va_up_ne _ _ (by decide)]; rfl) (by decide) (by decide) (by decide) (Nat.le_of_ble_eq_true rfl) (Nat.le_of_ble_eq_true rfl) dX4_init_128 (fun H hP hS => ?_)
  refine hs_putF hb0 G in_X4_init_X4 tyX4 tyX4_ok nmX4 (ci := 4) rfl hmn hP hS 0 (by decide) (va_up_self _ _ _) 18 (by decide) (by decide +kernel) rfl rfl rfl (.ref (hs_ad b0 sz 16)) (.array .int) (by decide +kernel) rfl rfl (Nat.le_of_ble_eq_true rfl) dX4_init_130 (fun H locs hP hS => ?_)
  rw [bx_uu] at hP
  refine lv_aload_n hx hb dX4_init_133 rfl (lv_at hl 0 rfl) ?_
  refine lv_sipush (v := 256) hx hb dX4_init_134 (by decide) ?_
  refine hs_newA (atype := .long) (ty := .long) G rfl (by decide +kernel) 1 rfl (fun _ _ h => h) hP (n0 := 1) rfl (by decide) hsz hS 256 (256, .inr (.inl (hm_va HM.z0))) (fun _ => rfl) (by rw [va_up_ne _ _ (by decide)]; rfl) (by decide) (by decide) (by decide) (Nat.le_of_ble_eq_true rfl) (Nat.le_of_ble_eq_true rfl) dX4_init_137 (fun H hP hS => ?_)
  refine hs_putF hb0 G in_X4_init_X4 tyX4 tyX4_ok nmX4 (ci := 4) rfl hmn hP hS 0 (by decide) (va_up_self _ _ _) 19 (by decide) (by decide +kernel) rfl rfl rfl (.ref (hs_ad b0 sz 17)) (.array .long) (by decide +kernel) rfl rfl (Nat.le_of_ble_eq_true rfl) dX4_init_139 (fun H locs hP hS => ?_)
  rw [bx_uu] at hP
  refine lv_aload_n hx hb dX4_init_142 rfl (lv_at hl 0 rfl) ?_
  refine lv_sipush (v := 256) hx hb dX4_init_143 (by decide) ?_
  refine hs_newA (atype := .int) (ty := .int) G rfl (by decide +kernel) 0 rfl (fun _ _ h => h) hP (n0 := 1) rfl (by decide) hsz hS 256 (256, .inl (hm_vv HM.z0)) (fun _ => rfl) (by rw [va_up_ne _ _ (by decide)]; rfl) (by decide) (by decide) (by decide) (Nat.le_of_ble_eq_true rfl) (Nat.le_of_ble_eq_true rfl) dX4_init_146 (fun H hP hS => ?_)
  refine hs_putF hb0 G in_X4_init_X4 tyX4 tyX4_ok nmX4 (ci := 4) rfl hmn hP hS 0 (by decide) (va_up_self _ _ _) 20 (by decide) (by decide +kernel) rfl rfl rfl (.ref (hs_ad b0 sz 18)) (.array .int) (by decide +kernel) rfl rfl (Nat.le_of_ble_eq_true rfl) dX4_init_148 (fun H locs hP hS => ?_)
  rw [bx_uu] at hP
  exact cc_ret hx hb hr hlocks hP hS (Nat.le_of_ble_eq_true rfl) (Nat.le_of_ble_eq_true rfl) dX4_init_151
set_option maxRecDepth 100000 in
theorem hm_born (b0 sz : Nat) (cy : Nat → ClassId) : hs_wl b0 sz (va_up (hm_Z cy) 0 (.inr (4, hm_objL (hs_ad b0 sz) HM.z0))) 19 = hm_mem (hs_ad b0 sz) cy HM.z0 := rfl
theorem hm_born_ok {b0 sz : Nat} (hb0 : b0 < sz) : hm_ok (hs_ad b0 sz) := fun _ _ _ _ h => hs_ad_inj hb0 h

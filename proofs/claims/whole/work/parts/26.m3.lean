theorem in_X4_restart_X4 : ∀ w ∈ u_ws RX4 TX4 21, w ∈ wsX4_restart := by decide +kernel
set_option maxHeartbeats 4000000 in
set_option maxRecDepth 100000 in
/-- reference: r_restart -/
theorem r_restart (l : Launch) (D : va_G) (cy : Nat → ClassId) (bd : Nat → Nat) (ho : hm_ok bd) (x : HM) (hhd : ∀ k, k < 16 → ∀ u, x.hd k = some u → u < 8) {t : Nat} (ht : t < 8) (a : Int64) : Ct l yX4_restart wsX4_restart ({ frames := 0, cells := 0, slots := 0, locals := 0 }) D cy (hm_A bd) [.ref (bd 0), .int (nI t), .long (a)] (hm_mem bd cy (x)) none (hm_mem bd cy (x.re t a)) := by
  refine ct_of (cc := cX4_restart) (maxL := 5) (ret := none) rfl (by decide) (Nat.le_of_ble_eq_true rfl) ?_
  intro p e s m below meth c ls G hx hb hml hr hlocks hP hS hl
  have hD := hm_D ho cy (x)
  have hl : lv_has ls 5 [(0, .ref (bd 0)), (1, .int (nI t)), (2, .long (a))] := hl
  have loop : ∀ (n i : Nat), i + n = 16 → ∀ (H : Heap) (locs : List Loc), va_P D vwCl (hm_mem bd cy (x.cs t i)) H → va_S (hm_A bd) s.heap H locs → ∀ ls : Array Slot, lv_has ls 5 [(4, .int (nI i)), (0, .ref (bd 0)), (1, .int (nI t)), (2, .long (a))] → W p l e ({ frames := 0, cells := 0, slots := 0, locals := 0 }) s m [.ref (bd 0), .int (nI t), .long a].toArray below meth c H locs 0 0 (MQ below (hs_Post D none (hm_mem bd cy (x.re t a)) (hm_A bd)) [.ref (bd 0), .int (nI t), .long a].toArray s 0 0 (hm_A bd)) (F0 m 3 ls []) := by
    intro n
    induction n with
    | zero =>
      intro i hi H locs hP hS ls hl
      have hi16 : i = 16 := by omega
      subst hi16
      rw [hm_cs16] at hP
      generalize hz : x.clr t 16 = z at hP
      have hre : x.re t a = z.mv t a := by rw [← hz]; rfl
      rw [hre]
      have hD := hm_D ho cy (z.mv1 t)
      refine lv_iload hx hb dX4_restart_3 (lv_at hl 0 rfl) ?_
      refine lv_bipush (v := 16) hx hb dX4_restart_5 (by decide) ?_
      refine lv_icmp_ge (tgt := 50) hx hb dX4_restart_7 (by decide) (fun c_1 => ?_) (fun c_1 => ?_)
      · refine lv_lload_n hx hb dX4_restart_50 rfl (lv_at hl 3 rfl) ?_
        refine lv_aload_n hx hb dX4_restart_51 rfl (lv_at hl 1 rfl) ?_
        refine hm_gf G in_X4_restart_X4 hP rfl 7 (by decide) (by decide +kernel) (.ref (bd 8)) rfl rfl dX4_restart_52 ?_
        refine lv_iload_n hx hb dX4_restart_55 rfl (lv_at hl 2 rfl) ?_
        refine hm_lL G hP 8 (HM.ws (HM.mv1 z t)) 8 rfl (t) (nI_clamp (by omega)) (hs_inN (by omega) (by decide)) (HM.ws (HM.mv1 z t) (t)) rfl dX4_restart_56 ?_
        refine hs_lle (x := a) (y := HM.ws (HM.mv1 z t) (t)) (tgt := 68) hx hb dX4_restart_57 dX4_restart_58 (by decide) (fun c_2 => ?_) (fun c_2 => ?_)
        · have hP : va_P D vwCl (hm_mem bd cy (z.mv2 t a)) H := by rw [← hs_mv2_neg z (a := a) c_2]; exact hP
          have hD := hm_D ho cy (z.mv2 t a)
          refine lv_aload_n hx hb dX4_restart_68 rfl (lv_at hl 1 rfl) ?_
          refine hm_gf G in_X4_restart_X4 hP rfl 6 (by decide) (by decide +kernel) (.ref (bd 7)) rfl rfl dX4_restart_69 ?_
          refine lv_iload_n hx hb dX4_restart_72 rfl (lv_at hl 2 rfl) ?_
          refine lv_aload_n hx hb dX4_restart_73 rfl (lv_at hl 1 rfl) ?_
          refine hm_gf G in_X4_restart_X4 hP rfl 7 (by decide) (by decide +kernel) (.ref (bd 8)) rfl rfl dX4_restart_74 ?_
          refine lv_iload_n hx hb dX4_restart_77 rfl (lv_at hl 2 rfl) ?_
          refine hm_lL G hP 8 (HM.ws (HM.mv2 z t a)) 8 rfl (t) (nI_clamp (by omega)) (hs_inN (by omega) (by decide)) (HM.ws (HM.mv2 z t a) (t)) rfl dX4_restart_78 ?_
          refine hm_sL G hP hD hS 7 (HM.rs (HM.mv2 z t a)) 8 rfl (t) (nI_clamp (by omega)) (hs_inN (by omega) (by decide)) (hm_mem bd cy (HM.u_rs (HM.mv2 z t a) (t) (HM.ws (HM.mv2 z t a) (t)))) hm_s_rs dX4_restart_79 (fun H locs hP hD hS => ?_)
          have hP : va_P D vwCl (hm_mem bd cy (z.mv3 t a)) H := hP
          have hD := hm_D ho cy (z.mv3 t a)
          refine lv_aload_n hx hb dX4_restart_80 rfl (lv_at hl 1 rfl) ?_
          refine hm_gf G in_X4_restart_X4 hP rfl 8 (by decide) (by decide +kernel) (.ref (bd 9)) rfl rfl dX4_restart_81 ?_
          refine lv_iload_n hx hb dX4_restart_84 rfl (lv_at hl 2 rfl) ?_
          refine hm_lL G hP 9 (HM.lm (HM.mv3 z t a)) 8 rfl (t) (nI_clamp (by omega)) (hs_inN (by omega) (by decide)) (HM.lm (HM.mv3 z t a) (t)) rfl dX4_restart_85 ?_
          refine lv_aload_n hx hb dX4_restart_86 rfl (lv_at hl 1 rfl) ?_
          refine hm_gf G in_X4_restart_X4 hP rfl 6 (by decide) (by decide +kernel) (.ref (bd 7)) rfl rfl dX4_restart_87 ?_
          refine lv_iload_n hx hb dX4_restart_90 rfl (lv_at hl 2 rfl) ?_
          refine hm_lL G hP 7 (HM.rs (HM.mv3 z t a)) 8 rfl (t) (nI_clamp (by omega)) (hs_inN (by omega) (by decide)) (HM.rs (HM.mv3 z t a) (t)) rfl dX4_restart_91 ?_
          refine hs_lge (x := HM.lm (HM.mv3 z t a) (t)) (y := HM.rs (HM.mv3 z t a) (t)) (tgt := 108) hx hb dX4_restart_92 dX4_restart_93 (by decide) (fun c_3 => ?_) (fun c_3 => ?_)
          · exact ct_vret hx hb hr hlocks rfl (by rw [← hs_mv_neg z c_3]; exact hP) hS dX4_restart_108
          · refine lv_aload_n hx hb dX4_restart_96 rfl (lv_at hl 1 rfl) ?_
            refine hm_gf G in_X4_restart_X4 hP rfl 8 (by decide) (by decide +kernel) (.ref (bd 9)) rfl rfl dX4_restart_97 ?_
            refine lv_iload_n hx hb dX4_restart_100 rfl (lv_at hl 2 rfl) ?_
            refine lv_aload_n hx hb dX4_restart_101 rfl (lv_at hl 1 rfl) ?_
            refine hm_gf G in_X4_restart_X4 hP rfl 6 (by decide) (by decide +kernel) (.ref (bd 7)) rfl rfl dX4_restart_102 ?_
            refine lv_iload_n hx hb dX4_restart_105 rfl (lv_at hl 2 rfl) ?_
            refine hm_lL G hP 7 (HM.rs (HM.mv3 z t a)) 8 rfl (t) (nI_clamp (by omega)) (hs_inN (by omega) (by decide)) (HM.rs (HM.mv3 z t a) (t)) rfl dX4_restart_106 ?_
            refine hm_sL G hP hD hS 9 (HM.lm (HM.mv3 z t a)) 8 rfl (t) (nI_clamp (by omega)) (hs_inN (by omega) (by decide)) (hm_mem bd cy (HM.u_lm (HM.mv3 z t a) (t) (HM.rs (HM.mv3 z t a) (t)))) hm_s_lm dX4_restart_107 (fun H locs hP hD hS => ?_)
            exact ct_vret hx hb hr hlocks rfl (by rw [← hs_mv_pos z c_3]; exact hP) hS dX4_restart_108
        · refine lv_aload_n hx hb dX4_restart_61 rfl (lv_at hl 1 rfl) ?_
          refine hm_gf G in_X4_restart_X4 hP rfl 7 (by decide) (by decide +kernel) (.ref (bd 8)) rfl rfl dX4_restart_62 ?_
          refine lv_iload_n hx hb dX4_restart_65 rfl (lv_at hl 2 rfl) ?_
          refine lv_lload_n hx hb dX4_restart_66 rfl (lv_at hl 3 rfl) ?_
          refine hm_sL G hP hD hS 8 (HM.ws (HM.mv1 z t)) 8 rfl (t) (nI_clamp (by omega)) (hs_inN (by omega) (by decide)) (hm_mem bd cy (HM.u_ws (HM.mv1 z t) (t) (a))) hm_s_ws dX4_restart_67 (fun H locs hP hD hS => ?_)
          have hP : va_P D vwCl (hm_mem bd cy (z.mv2 t a)) H := by rw [← hs_mv2_pos z c_2]; exact hP
          have hD := hm_D ho cy (z.mv2 t a)
          refine lv_aload_n hx hb dX4_restart_68 rfl (lv_at hl 1 rfl) ?_
          refine hm_gf G in_X4_restart_X4 hP rfl 6 (by decide) (by decide +kernel) (.ref (bd 7)) rfl rfl dX4_restart_69 ?_
          refine lv_iload_n hx hb dX4_restart_72 rfl (lv_at hl 2 rfl) ?_
          refine lv_aload_n hx hb dX4_restart_73 rfl (lv_at hl 1 rfl) ?_
          refine hm_gf G in_X4_restart_X4 hP rfl 7 (by decide) (by decide +kernel) (.ref (bd 8)) rfl rfl dX4_restart_74 ?_
          refine lv_iload_n hx hb dX4_restart_77 rfl (lv_at hl 2 rfl) ?_
          refine hm_lL G hP 8 (HM.ws (HM.mv2 z t a)) 8 rfl (t) (nI_clamp (by omega)) (hs_inN (by omega) (by decide)) (HM.ws (HM.mv2 z t a) (t)) rfl dX4_restart_78 ?_
          refine hm_sL G hP hD hS 7 (HM.rs (HM.mv2 z t a)) 8 rfl (t) (nI_clamp (by omega)) (hs_inN (by omega) (by decide)) (hm_mem bd cy (HM.u_rs (HM.mv2 z t a) (t) (HM.ws (HM.mv2 z t a) (t)))) hm_s_rs dX4_restart_79 (fun H locs hP hD hS => ?_)
          have hP : va_P D vwCl (hm_mem bd cy (z.mv3 t a)) H := hP
          have hD := hm_D ho cy (z.mv3 t a)
          refine lv_aload_n hx hb dX4_restart_80 rfl (lv_at hl 1 rfl) ?_
          refine hm_gf G in_X4_restart_X4 hP rfl 8 (by decide) (by decide +kernel) (.ref (bd 9)) rfl rfl dX4_restart_81 ?_
          refine lv_iload_n hx hb dX4_restart_84 rfl (lv_at hl 2 rfl) ?_
          refine hm_lL G hP 9 (HM.lm (HM.mv3 z t a)) 8 rfl (t) (nI_clamp (by omega)) (hs_inN (by omega) (by decide)) (HM.lm (HM.mv3 z t a) (t)) rfl dX4_restart_85 ?_
          refine lv_aload_n hx hb dX4_restart_86 rfl (lv_at hl 1 rfl) ?_
          refine hm_gf G in_X4_restart_X4 hP rfl 6 (by decide) (by decide +kernel) (.ref (bd 7)) rfl rfl dX4_restart_87 ?_
          refine lv_iload_n hx hb dX4_restart_90 rfl (lv_at hl 2 rfl) ?_
          refine hm_lL G hP 7 (HM.rs (HM.mv3 z t a)) 8 rfl (t) (nI_clamp (by omega)) (hs_inN (by omega) (by decide)) (HM.rs (HM.mv3 z t a) (t)) rfl dX4_restart_91 ?_
          refine hs_lge (x := HM.lm (HM.mv3 z t a) (t)) (y := HM.rs (HM.mv3 z t a) (t)) (tgt := 108) hx hb dX4_restart_92 dX4_restart_93 (by decide) (fun c_4 => ?_) (fun c_4 => ?_)
          · exact ct_vret hx hb hr hlocks rfl (by rw [← hs_mv_neg z c_4]; exact hP) hS dX4_restart_108
          · refine lv_aload_n hx hb dX4_restart_96 rfl (lv_at hl 1 rfl) ?_
            refine hm_gf G in_X4_restart_X4 hP rfl 8 (by decide) (by decide +kernel) (.ref (bd 9)) rfl rfl dX4_restart_97 ?_
            refine lv_iload_n hx hb dX4_restart_100 rfl (lv_at hl 2 rfl) ?_
            refine lv_aload_n hx hb dX4_restart_101 rfl (lv_at hl 1 rfl) ?_
            refine hm_gf G in_X4_restart_X4 hP rfl 6 (by decide) (by decide +kernel) (.ref (bd 7)) rfl rfl dX4_restart_102 ?_
            refine lv_iload_n hx hb dX4_restart_105 rfl (lv_at hl 2 rfl) ?_
            refine hm_lL G hP 7 (HM.rs (HM.mv3 z t a)) 8 rfl (t) (nI_clamp (by omega)) (hs_inN (by omega) (by decide)) (HM.rs (HM.mv3 z t a) (t)) rfl dX4_restart_106 ?_
            refine hm_sL G hP hD hS 9 (HM.lm (HM.mv3 z t a)) 8 rfl (t) (nI_clamp (by omega)) (hs_inN (by omega) (by decide)) (hm_mem bd cy (HM.u_lm (HM.mv3 z t a) (t) (HM.rs (HM.mv3 z t a) (t)))) hm_s_lm dX4_restart_107 (fun H locs hP hD hS => ?_)
            exact ct_vret hx hb hr hlocks rfl (by rw [← hs_mv_pos z c_4]; exact hP) hS dX4_restart_108
      · exact absurd (show (16 : Int32) ≤ nI 16 by decide) c_1
    | succ n ih =>
      intro i hi H locs hP hS ls hl
      have hD := hm_D ho cy (x.cs t i)
      have hi16 : i < 16 := by omega
      refine lv_iload hx hb dX4_restart_3 (lv_at hl 0 rfl) ?_
      refine lv_bipush (v := 16) hx hb dX4_restart_5 (by decide) ?_
      refine lv_icmp_ge (tgt := 50) hx hb dX4_restart_7 (by decide) (fun c_1 => ?_) (fun c_1 => ?_)
      · exact absurd c_1 (nI_ge (b := 16) (by omega) (by decide))
      · refine lv_aload_n hx hb dX4_restart_10 rfl (lv_at hl 1 rfl) ?_
        refine hm_gf G in_X4_restart_X4 hP rfl 15 (by decide) (by decide +kernel) (.ref (bd 14)) rfl rfl dX4_restart_11 ?_
        refine lv_iload hx hb dX4_restart_14 (lv_at hl 0 rfl) ?_
        refine hm_lI G hP 14 (hm_hd (HM.cs x t i)) 16 rfl (i) (nI_clamp (by omega)) (hs_inN (by omega) (by decide)) (hm_ho (HM.hd (HM.cs x t i) (i))) rfl dX4_restart_16 ?_
        refine lv_iload_n hx hb dX4_restart_17 rfl (lv_at hl 2 rfl) ?_
        refine lv_iconst (v := 1) hx hb dX4_restart_18 (by decide) ?_
        refine lv_iadd hx hb dX4_restart_19 ?_
        rw [show ((nI t + 1)) = nI (t + 1) from nI_1 t]
        refine lv_icmp_ne (tgt := 31) hx hb dX4_restart_20 (by decide) (fun c_2 => ?_) (fun c_2 => ?_)
        · have hq : (x.cs t i).hd i = x.hd i := by rw [hs_cs_hd, hs_clr_self]
          have he : ¬ x.hd i = some t := fun q => c_2 (by rw [hq]; exact (hm_ho_eq ht (hhd i hi16)).mpr q)
          refine lv_aload_n hx hb dX4_restart_31 rfl (lv_at hl 1 rfl) ?_
          refine hm_gf G in_X4_restart_X4 hP rfl 10 (by decide) (by decide +kernel) (.ref (bd 11)) rfl rfl dX4_restart_32 ?_
          refine lv_iload_n hx hb dX4_restart_35 rfl (lv_at hl 2 rfl) ?_
          refine lv_bipush (v := 16) hx hb dX4_restart_36 (by decide) ?_
          refine lv_imul hx hb dX4_restart_38 ?_
          refine lv_iload hx hb dX4_restart_39 (lv_at hl 0 rfl) ?_
          refine lv_iadd hx hb dX4_restart_41 ?_
          rw [show (((nI t * 16) + nI i)) = nI (t * 16 + i) from by rw [show (16 : Int32) = nI 16 from rfl, pk_mul, nI_add]]
          refine lv_iconst (v := 0) hx hb dX4_restart_42 (by decide) ?_
          refine hm_sZ G hP hD hS 11 (hm_se (HM.cs x t i)) 128 rfl (t * 16 + i) (nI_clamp (by omega)) (hs_inN (by omega) (by decide)) (by decide) (hm_mem bd cy (HM.u_se (HM.cs x t i) t (va_up (HM.se (HM.cs x t i) t) i false))) (hm_s_seF hi16) dX4_restart_43 (fun H locs hP hD hS => ?_)
          refine lv_iinc (v := nI (i + 1)) (lv' := [(4, .int (nI (i + 1))), (0, .ref (bd 0)), (1, .int (nI t)), (2, .long (a))]) hx hb dX4_restart_44 hl (k := 0) rfl (nI_1 i) (by decide) rfl (fun ls hl => ?_)
          refine lv_goto (tgt := 3) hx hb dX4_restart_47 (by decide) ?_
          exact ih (i + 1) (by omega) H locs (by rw [← hs_cs_ne x he]; exact hP) hS ls (lv_sub hl [0, 1, 2, 3] rfl)
        · have hq : (x.cs t i).hd i = x.hd i := by rw [hs_cs_hd, hs_clr_self]
          have he : x.hd i = some t := (hm_ho_eq ht (hhd i hi16)).mp (by rw [← hq]; exact c_2)
          refine lv_aload_n hx hb dX4_restart_23 rfl (lv_at hl 1 rfl) ?_
          refine hm_gf G in_X4_restart_X4 hP rfl 15 (by decide) (by decide +kernel) (.ref (bd 14)) rfl rfl dX4_restart_24 ?_
          refine lv_iload hx hb dX4_restart_27 (lv_at hl 0 rfl) ?_
          refine lv_iconst (v := 0) hx hb dX4_restart_29 (by decide) ?_
          refine hm_sI G hP hD hS 14 (hm_hd (HM.cs x t i)) 16 rfl (i) (nI_clamp (by omega)) (hs_inN (by omega) (by decide)) (hm_mem bd cy (HM.u_hd (HM.cs x t i) (i) none)) hm_s_hdN dX4_restart_30 (fun H locs hP hD hS => ?_)
          refine lv_aload_n hx hb dX4_restart_31 rfl (lv_at hl 1 rfl) ?_
          refine hm_gf G in_X4_restart_X4 hP rfl 10 (by decide) (by decide +kernel) (.ref (bd 11)) rfl rfl dX4_restart_32 ?_
          refine lv_iload_n hx hb dX4_restart_35 rfl (lv_at hl 2 rfl) ?_
          refine lv_bipush (v := 16) hx hb dX4_restart_36 (by decide) ?_
          refine lv_imul hx hb dX4_restart_38 ?_
          refine lv_iload hx hb dX4_restart_39 (lv_at hl 0 rfl) ?_
          refine lv_iadd hx hb dX4_restart_41 ?_
          rw [show (((nI t * 16) + nI i)) = nI (t * 16 + i) from by rw [show (16 : Int32) = nI 16 from rfl, pk_mul, nI_add]]
          refine lv_iconst (v := 0) hx hb dX4_restart_42 (by decide) ?_
          refine hm_sZ G hP hD hS 11 (hm_se (HM.u_hd (HM.cs x t i) (i) none)) 128 rfl (t * 16 + i) (nI_clamp (by omega)) (hs_inN (by omega) (by decide)) (by decide) (hm_mem bd cy (HM.u_se (HM.u_hd (HM.cs x t i) (i) none) t (va_up (HM.se (HM.u_hd (HM.cs x t i) (i) none) t) i false))) (hm_s_seF hi16) dX4_restart_43 (fun H locs hP hD hS => ?_)
          refine lv_iinc (v := nI (i + 1)) (lv' := [(4, .int (nI (i + 1))), (0, .ref (bd 0)), (1, .int (nI t)), (2, .long (a))]) hx hb dX4_restart_44 hl (k := 0) rfl (nI_1 i) (by decide) rfl (fun ls hl => ?_)
          refine lv_goto (tgt := 3) hx hb dX4_restart_47 (by decide) ?_
          exact ih (i + 1) (by omega) H locs (by rw [← hs_cs_eq x he]; exact hP) hS ls (lv_sub hl [0, 1, 2, 3] rfl)
  refine lv_iconst (v := 0) hx hb dX4_restart_0 (by decide) ?_
  refine lv_istore (lv' := [(4, .int (0)), (0, .ref (bd 0)), (1, .int (nI t)), (2, .long (a))]) hx hb dX4_restart_1 hl (by decide) rfl (fun ls hl => ?_)
  exact loop 16 0 rfl s.heap [] (by rw [hs_cs_0]; exact hP) hS ls (lv_sub hl [0, 1, 2, 3] rfl)
theorem in_X4_refused_X4 : ∀ w ∈ u_ws RX4 TX4 21, w ∈ wsX4_refused := by decide +kernel
set_option maxHeartbeats 4000000 in
set_option maxRecDepth 100000 in
/-- reference: r_refused -/
theorem r_refused (l : Launch) (D : va_G) (cy : Nat → ClassId) (bd : Nat → Nat) (ho : hm_ok bd) (x : HM) (hph : hs_Ph x) (z : Int32) : Ct l yX4_refused wsX4_refused ({ frames := 0, cells := 0, slots := 0, locals := 0 }) D cy (hm_A bd) [.ref (bd 0), .int (z)] (hm_mem bd cy (x)) (some (.int (x.codeA z))) (hm_mem bd cy (x)) := by
  rcases hs_rng z (b := 8) (by decide) with hz | ⟨t, ht, rfl⟩
  · refine ct_of (cc := cX4_refused) (maxL := 2) (ret := (some .int)) rfl (by decide) (Nat.le_of_ble_eq_true rfl) ?_
    intro p e s m below meth c ls G hx hb hml hr hlocks hP hS hl
    have hD := hm_D ho cy (x)
    have hl : lv_has ls 2 [(0, .ref (bd 0)), (1, .int (z))] := hl
    refine lv_iload_n hx hb dX4_refused_0 rfl (lv_at hl 1 rfl) ?_
    refine lv_if_lt (tgt := 10) hx hb dX4_refused_1 (by decide) (fun c_1 => ?_) (fun c_1 => ?_)
    · refine lv_iconst (v := (-1)) hx hb dX4_refused_10 (by decide) ?_
      exact ct_iret hx hb hr hlocks (by rw [HM.codeA, hs_n_out hz]) hP hS dX4_refused_11
    · refine lv_iload_n hx hb dX4_refused_4 rfl (lv_at hl 1 rfl) ?_
      refine lv_bipush (v := 7) hx hb dX4_refused_5 (by decide) ?_
      refine lv_icmp_le (tgt := 12) hx hb dX4_refused_7 (by decide) (fun c_2 => ?_) (fun c_2 => ?_)
      · exact absurd c_2 (Int32.not_le.mpr (hs_gt_of hz c_1 (by decide)))
      · refine lv_iconst (v := (-1)) hx hb dX4_refused_10 (by decide) ?_
        exact ct_iret hx hb hr hlocks (by rw [HM.codeA, hs_n_out hz]) hP hS dX4_refused_11
  · have eM := hs_n_in ht (show 8 < 2 ^ 31 by decide)
    refine ct_of (cc := cX4_refused) (maxL := 2) (ret := (some .int)) rfl (by decide) (Nat.le_of_ble_eq_true rfl) ?_
    intro p e s m below meth c ls G hx hb hml hr hlocks hP hS hl
    have hD := hm_D ho cy (x)
    have hl : lv_has ls 2 [(0, .ref (bd 0)), (1, .int (nI t))] := hl
    refine lv_iload_n hx hb dX4_refused_0 rfl (lv_at hl 1 rfl) ?_
    refine lv_if_lt (tgt := 10) hx hb dX4_refused_1 (by decide) (fun c_1 => ?_) (fun c_1 => ?_)
    · exact absurd c_1 (nI_pos (by omega))
    · refine lv_iload_n hx hb dX4_refused_4 rfl (lv_at hl 1 rfl) ?_
      refine lv_bipush (v := 7) hx hb dX4_refused_5 (by decide) ?_
      refine lv_icmp_le (tgt := 12) hx hb dX4_refused_7 (by decide) (fun c_2 => ?_) (fun c_2 => ?_)
      · refine lv_aload_n hx hb dX4_refused_12 rfl (lv_at hl 0 rfl) ?_
        refine hm_gf G in_X4_refused_X4 hP rfl 2 (by decide) (by decide +kernel) (.ref (bd 3)) rfl rfl dX4_refused_13 ?_
        refine lv_iload_n hx hb dX4_refused_16 rfl (lv_at hl 1 rfl) ?_
        refine hm_lI G hP 3 (HM.ph (x)) 8 rfl (t) (nI_clamp (by omega)) (hs_inN (by omega) (by decide)) (HM.ph (x) (t)) rfl dX4_refused_17 ?_
        refine lv_if_ne (tgt := 24) hx hb dX4_refused_18 (by decide) (fun c_3 => ?_) (fun c_3 => ?_)
        · refine lv_aload_n hx hb dX4_refused_24 rfl (lv_at hl 0 rfl) ?_
          refine hm_gf G in_X4_refused_X4 hP rfl 2 (by decide) (by decide +kernel) (.ref (bd 3)) rfl rfl dX4_refused_25 ?_
          refine lv_iload_n hx hb dX4_refused_28 rfl (lv_at hl 1 rfl) ?_
          refine hm_lI G hP 3 (HM.ph (x)) 8 rfl (t) (nI_clamp (by omega)) (hs_inN (by omega) (by decide)) (HM.ph (x) (t)) rfl dX4_refused_29 ?_
          refine lv_iconst (v := 3) hx hb dX4_refused_30 (by decide) ?_
          refine lv_icmp_ne (tgt := 37) hx hb dX4_refused_31 (by decide) (fun c_4 => ?_) (fun c_4 => ?_)
          · refine lv_aload_n hx hb dX4_refused_37 rfl (lv_at hl 0 rfl) ?_
            refine hm_gf G in_X4_refused_X4 hP rfl 2 (by decide) (by decide +kernel) (.ref (bd 3)) rfl rfl dX4_refused_38 ?_
            refine lv_iload_n hx hb dX4_refused_41 rfl (lv_at hl 1 rfl) ?_
            refine hm_lI G hP 3 (HM.ph (x)) 8 rfl (t) (nI_clamp (by omega)) (hs_inN (by omega) (by decide)) (HM.ph (x) (t)) rfl dX4_refused_42 ?_
            refine lv_iconst (v := 2) hx hb dX4_refused_43 (by decide) ?_
            refine lv_icmp_ne (tgt := 50) hx hb dX4_refused_44 (by decide) (fun c_5 => ?_) (fun c_5 => ?_)
            · refine lv_iconst (v := 0) hx hb dX4_refused_50 (by decide) ?_
              have h1 : x.ph t = 1 := ((hph t ht).resolve_left c_3).resolve_right (fun q => q.elim c_5 c_4)
              exact ct_iret hx hb hr hlocks (by rw [HM.codeA, eM]; show _ = some (Value.int (HM.code x t)); rw [HM.code, h1]; rfl) hP hS dX4_refused_51
            · refine lv_bipush (v := (-8)) hx hb dX4_refused_47 (by decide) ?_
              exact ct_iret hx hb hr hlocks (by rw [HM.codeA, eM]; show _ = some (Value.int (HM.code x t)); rw [HM.code, c_5]; rfl) hP hS dX4_refused_49
          · refine lv_bipush (v := (-6)) hx hb dX4_refused_34 (by decide) ?_
            exact ct_iret hx hb hr hlocks (by rw [HM.codeA, eM]; show _ = some (Value.int (HM.code x t)); rw [HM.code, c_4]; rfl) hP hS dX4_refused_36
        · refine lv_bipush (v := (-4)) hx hb dX4_refused_21 (by decide) ?_
          exact ct_iret hx hb hr hlocks (by rw [HM.codeA, eM]; show _ = some (Value.int (HM.code x t)); rw [HM.code, c_3]; rfl) hP hS dX4_refused_23
      · exact absurd (Int32.not_lt.mp (hs_le_in ht (by decide))) c_2
theorem in_X4_stopped_X4 : ∀ w ∈ u_ws RX4 TX4 21, w ∈ wsX4_stopped := by decide +kernel
set_option maxHeartbeats 4000000 in
set_option maxRecDepth 100000 in
/-- reference: r_stopped -/
theorem r_stopped (l : Launch) (D : va_G) (cy : Nat → ClassId) (bd : Nat → Nat) (ho : hm_ok bd) (x : HM) (hph : hs_Ph x) (z : Int32) : Ct l yX4_stopped wsX4_stopped ({ frames := 1, cells := 0, slots := 0, locals := 21 }) D cy (hm_A bd) [.ref (bd 0), .int (z)] (hm_mem bd cy (x)) (some (.int (x.stopA z))) (hm_mem bd cy (x.stopM z)) := by
  rcases hs_rng z (b := 8) (by decide) with hz | ⟨t, ht, rfl⟩
  · have eA : x.codeA z = -1 := by rw [HM.codeA, hs_n_out hz]
    refine ct_of (cc := cX4_stopped) (maxL := 3) (ret := (some .int)) rfl (by decide) (Nat.le_of_ble_eq_true rfl) ?_
    intro p e s m below meth c ls G hx hb hml hr hlocks hP hS hl
    have hD := hm_D ho cy (x)
    have hl : lv_has ls 3 [(0, .ref (bd 0)), (1, .int (z))] := hl
    refine lv_aload_n hx hb dX4_stopped_0 rfl (lv_at hl 0 rfl) ?_
    refine lv_iload_n hx hb dX4_stopped_1 rfl (lv_at hl 1 rfl) ?_
    refine hs_callV (n := 1) (As := [.int (z)]) (rest := []) G hml (r_refused l D cy bd ho (x) (hph) (z)) gX4_stopped_X4_refused rfl rfl rfl (by decide +kernel) ⟨Nat.le_of_ble_eq_true rfl, Nat.le_of_ble_eq_true rfl⟩ (q0 := 0) (ci := 4) (fs := hm_objL bd (x)) rfl rfl rfl rfl hl.1 (Nat.le_of_ble_eq_true rfl) ⟨Nat.zero_le _, Nat.zero_le _⟩ hP hS (fun _ h => h) rfl dX4_stopped_2 (fun H locs hP hS _ _ => ?_)
    refine lv_istore_n (lv' := [(2, .int (HM.codeA (x) (z))), (0, .ref (bd 0)), (1, .int (z))]) hx hb dX4_stopped_5 rfl hl (by decide) rfl (fun ls hl => ?_)
    refine lv_iload_n hx hb dX4_stopped_6 rfl (lv_at hl 0 rfl) ?_
    refine lv_if_ne (tgt := 28) hx hb dX4_stopped_7 (by decide) (fun c_1 => ?_) (fun c_1 => ?_)
    · refine lv_iload_n hx hb dX4_stopped_28 rfl (lv_at hl 0 rfl) ?_
      exact ct_iret hx hb hr hlocks (by rw [eA, HM.stopA, hs_n_out hz]) (by rw [HM.stopM, hs_n_out hz]; exact hP) hS dX4_stopped_29
    · exact absurd (eA.symm.trans c_1) (by decide)
  · have eM := hs_n_in ht (show 8 < 2 ^ 31 by decide)
    have eC : x.codeA (nI t) = x.code t := by rw [HM.codeA, eM]
    have eA : x.stopA (nI t) = x.stc t := by rw [HM.stopA, eM]
    have eB : x.stopM (nI t) = x.stp t := by rw [HM.stopM, eM]
    rw [eA, eB]
    refine ct_of (cc := cX4_stopped) (maxL := 3) (ret := (some .int)) rfl (by decide) (Nat.le_of_ble_eq_true rfl) ?_
    intro p e s m below meth c ls G hx hb hml hr hlocks hP hS hl
    have hD := hm_D ho cy (x)
    have hl : lv_has ls 3 [(0, .ref (bd 0)), (1, .int (nI t))] := hl
    refine lv_aload_n hx hb dX4_stopped_0 rfl (lv_at hl 0 rfl) ?_
    refine lv_iload_n hx hb dX4_stopped_1 rfl (lv_at hl 1 rfl) ?_
    refine hs_callV (n := 1) (As := [.int (nI t)]) (rest := []) G hml (r_refused l D cy bd ho (x) (hph) (nI t)) gX4_stopped_X4_refused rfl rfl rfl (by decide +kernel) ⟨Nat.le_of_ble_eq_true rfl, Nat.le_of_ble_eq_true rfl⟩ (q0 := 0) (ci := 4) (fs := hm_objL bd (x)) rfl rfl rfl rfl hl.1 (Nat.le_of_ble_eq_true rfl) ⟨Nat.zero_le _, Nat.zero_le _⟩ hP hS (fun _ h => h) rfl dX4_stopped_2 (fun H locs hP hS _ _ => ?_)
    refine lv_istore_n (lv' := [(2, .int (HM.codeA (x) (nI t))), (0, .ref (bd 0)), (1, .int (nI t))]) hx hb dX4_stopped_5 rfl hl (by decide) rfl (fun ls hl => ?_)
    refine lv_iload_n hx hb dX4_stopped_6 rfl (lv_at hl 0 rfl) ?_
    refine lv_if_ne (tgt := 28) hx hb dX4_stopped_7 (by decide) (fun c_1 => ?_) (fun c_1 => ?_)
    · refine lv_iload_n hx hb dX4_stopped_28 rfl (lv_at hl 0 rfl) ?_
      exact ct_iret hx hb hr hlocks (by rw [HM.stc, if_neg (fun q => c_1 (eC.trans q.1))]; first | rfl | rw [eC]) (by rw [HM.stp, if_neg (fun q => c_1 (eC.trans q.1))]; exact hP) hS dX4_stopped_29
    · refine lv_aload_n hx hb dX4_stopped_10 rfl (lv_at hl 1 rfl) ?_
      refine hm_gf G in_X4_stopped_X4 hP rfl 9 (by decide) (by decide +kernel) (.ref (bd 10)) rfl rfl dX4_stopped_11 ?_
      refine lv_iload_n hx hb dX4_stopped_14 rfl (lv_at hl 2 rfl) ?_
      refine hm_lZ G hP 10 (HM.hu (x)) 8 rfl (t) (nI_clamp (by omega)) (hs_inN (by omega) (by decide)) (HM.hu (x) (t)) rfl dX4_stopped_15 ?_
      refine lv_if_eq (tgt := 28) hx hb dX4_stopped_16 (by decide) (fun c_2 => ?_) (fun c_2 => ?_)
      · refine lv_iload_n hx hb dX4_stopped_28 rfl (lv_at hl 0 rfl) ?_
        exact ct_iret hx hb hr hlocks (by rw [HM.stc, if_neg (fun q => q.2 c_2)]; first | rfl | rw [eC]) (by rw [HM.stp, if_neg (fun q => q.2 c_2)]; exact hP) hS dX4_stopped_29
      · refine lv_aload_n hx hb dX4_stopped_19 rfl (lv_at hl 1 rfl) ?_
        refine hm_gf G in_X4_stopped_X4 hP rfl 9 (by decide) (by decide +kernel) (.ref (bd 10)) rfl rfl dX4_stopped_20 ?_
        refine lv_iload_n hx hb dX4_stopped_23 rfl (lv_at hl 2 rfl) ?_
        refine lv_iconst (v := 0) hx hb dX4_stopped_24 (by decide) ?_
        refine hm_sZ G hP hD hS 10 (HM.hu (x)) 8 rfl (t) (nI_clamp (by omega)) (hs_inN (by omega) (by decide)) (by decide) (hm_mem bd cy (HM.u_hu (x) (t) (0))) hm_s_hu dX4_stopped_25 (fun H locs hP hD hS => ?_)
        refine lv_iconst (v := 1) hx hb dX4_stopped_26 (by decide) ?_
        exact ct_iret hx hb hr hlocks (by rw [HM.stc, if_pos ⟨eC.symm.trans c_1, c_2⟩]) (by rw [HM.stp, if_pos ⟨eC.symm.trans c_1, c_2⟩]; exact hP) hS dX4_stopped_27

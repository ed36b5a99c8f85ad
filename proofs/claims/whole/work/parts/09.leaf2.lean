theorem in_X0_newestIn_X0 : ∀ w ∈ u_ws RX0 TX0 8, w ∈ wsX0_newestIn := by decide +kernel
set_option maxHeartbeats 4000000 in
set_option maxRecDepth 100000 in
/-- Key.newestIn -/
theorem c_newestIn (l : Launch) (D : va_G) (cy : Nat → ClassId) (ad : Nat → Nat) (ho : hc_ok ad) (x : HM) {k : Nat} (hk : k < 16) (hn16 : (x.vk k).length ≤ 16) (a u : Int64) : Ct l yX0_newestIn wsX0_newestIn ({ frames := 0, cells := 0, slots := 0, locals := 0 }) D cy (hc_A ad) [.ref (ad (9 + k)), .long (a), .long (u)] (hc_mem ad cy (x)) (some (.int (hs_ix (hs_bi (hc_stA x k) a u (x.vk k).length)))) (hc_mem ad cy (x)) := by
  refine ct_of (cc := cX0_newestIn) (maxL := 9) (ret := (some .int)) rfl (by decide) (Nat.le_of_ble_eq_true rfl) ?_
  intro p e s m below meth c ls G hx hb hml hr hlocks hP hS hl
  have hl : lv_has ls 9 [(0, .ref (ad (9 + k))), (1, .long (a)), (3, .long (u))] := hl
  have loop : ∀ (n i : Nat), i ≤ (x.vk k).length → (x.vk k).length + 1 ≤ i + n → ∀ ls : Array Slot, lv_has ls 9 [(8, .int (nI (i))), (6, .long (hs_fl (hc_stA x k) a (hs_bi (hc_stA x k) a u (i)))), (5, .int (hs_ix (hs_bi (hc_stA x k) a u (i)))), (0, .ref (ad (9 + k))), (1, .long (a)), (3, .long (u))] → W p l e ({ frames := 0, cells := 0, slots := 0, locals := 0 }) s m [.ref (ad (9 + k)), .long a, .long u].toArray below meth c s.heap [] 0 0 (MQ below (hs_Post D (some (.int (hs_ix (hs_bi (hc_stA x k) a u (x.vk k).length)))) (hc_mem ad cy x) (hc_A ad)) [.ref (ad (9 + k)), .long a, .long u].toArray s 0 0 (hc_A ad)) (F0 m 9 ls []) := by
    intro n
    induction n with
    | zero => intro i h1 h2; exact absurd h2 (by omega)
    | succ n ih =>
      intro i hi hin ls hl
      refine lv_iload hx hb dX0_newestIn_9 (lv_at hl 0 rfl) ?_
      refine lv_aload_n hx hb dX0_newestIn_11 rfl (lv_at hl 3 rfl) ?_
      refine hc_g_key G (in_X0_newestIn_X0) hP (hk) 4 (by decide) (by decide +kernel) (.int (nI (HM.vk (x) (k)).length)) rfl rfl dX0_newestIn_12 ?_
      refine lv_icmp_ge (tgt := 62) hx hb dX0_newestIn_15 (by decide) (fun c_1 => ?_) (fun c_1 => ?_)
      · have hie : i = (x.vk k).length := Nat.le_antisymm hi ((nI_leI (by omega) (by omega)).mp c_1)
        refine lv_iload hx hb dX0_newestIn_62 (lv_at hl 2 rfl) ?_
        exact ct_iret hx hb hr hlocks (by rw [hie]) hP hS dX0_newestIn_64
      · have hlt : i < (x.vk k).length := Nat.lt_of_not_le (fun q => c_1 (nI_le q (by omega)))
        refine lv_aload_n hx hb dX0_newestIn_18 rfl (lv_at hl 3 rfl) ?_
        refine hc_g_key G (in_X0_newestIn_X0) hP (hk) 2 (by decide) (by decide +kernel) (.ref (ad (25 + k))) rfl rfl dX0_newestIn_19 ?_
        refine lv_iload hx hb dX0_newestIn_22 (lv_at hl 0 rfl) ?_
        refine va_lald hx hb G.2.2.2.2.1 hP (25 + k) 1 (hc_at_st (hk)) rfl (hs_in (k := i) (n := 16) (nI_clamp (by omega)) (hs_inN (by omega) (by decide))) dX0_newestIn_24 ?_
        rw [show Int32.toNatClampNeg (nI (i)) = i from nI_clamp (by omega)]
        refine lv_lload hx hb dX0_newestIn_25 (lv_at hl 1 rfl) ?_
        refine hs_lle (x := hc_stA (x) (k) (i)) (y := hs_fl (hc_stA x k) a (hs_bi (hc_stA x k) a u (i))) (tgt := 56) hx hb dX0_newestIn_27 dX0_newestIn_28 (by decide) (fun c_2 => ?_) (fun c_2 => ?_)
        · refine lv_iinc (v := nI (i + 1)) (lv' := [(8, .int (nI (i + 1))), (6, .long (hs_fl (hc_stA x k) a (hs_bi (hc_stA x k) a u (i)))), (5, .int (hs_ix (hs_bi (hc_stA x k) a u (i)))), (0, .ref (ad (9 + k))), (1, .long (a)), (3, .long (u))]) hx hb dX0_newestIn_56 hl (k := 0) rfl (nI_1 i) (by decide) rfl (fun ls hl => ?_)
          refine lv_goto (tgt := 9) hx hb dX0_newestIn_59 (by decide) ?_
          have e1 : hs_bi (hc_stA x k) a u (i + 1) = hs_bi (hc_stA x k) a u i := if_neg (fun q => c_2 q.1)
          refine ih (i + 1) (by omega) (by omega) ls ?_
          rw [e1]; exact lv_sub hl [0, 1, 2, 3, 4, 5] rfl
        · refine lv_aload_n hx hb dX0_newestIn_31 rfl (lv_at hl 3 rfl) ?_
          refine hc_g_key G (in_X0_newestIn_X0) hP (hk) 2 (by decide) (by decide +kernel) (.ref (ad (25 + k))) rfl rfl dX0_newestIn_32 ?_
          refine lv_iload hx hb dX0_newestIn_35 (lv_at hl 0 rfl) ?_
          refine va_lald hx hb G.2.2.2.2.1 hP (25 + k) 1 (hc_at_st (hk)) rfl (hs_in (k := i) (n := 16) (nI_clamp (by omega)) (hs_inN (by omega) (by decide))) dX0_newestIn_37 ?_
          rw [show Int32.toNatClampNeg (nI (i)) = i from nI_clamp (by omega)]
          refine lv_lload_n hx hb dX0_newestIn_38 rfl (lv_at hl 5 rfl) ?_
          refine hs_lgt (x := hc_stA (x) (k) (i)) (y := u) (tgt := 56) hx hb dX0_newestIn_39 dX0_newestIn_40 (by decide) (fun c_3 => ?_) (fun c_3 => ?_)
          · refine lv_iinc (v := nI (i + 1)) (lv' := [(8, .int (nI (i + 1))), (6, .long (hs_fl (hc_stA x k) a (hs_bi (hc_stA x k) a u (i)))), (5, .int (hs_ix (hs_bi (hc_stA x k) a u (i)))), (0, .ref (ad (9 + k))), (1, .long (a)), (3, .long (u))]) hx hb dX0_newestIn_56 hl (k := 0) rfl (nI_1 i) (by decide) rfl (fun ls hl => ?_)
            refine lv_goto (tgt := 9) hx hb dX0_newestIn_59 (by decide) ?_
            have e1 : hs_bi (hc_stA x k) a u (i + 1) = hs_bi (hc_stA x k) a u i := if_neg (fun q => Int64.not_le.mpr c_3 q.2)
            refine ih (i + 1) (by omega) (by omega) ls ?_
            rw [e1]; exact lv_sub hl [0, 1, 2, 3, 4, 5] rfl
          · refine lv_aload_n hx hb dX0_newestIn_43 rfl (lv_at hl 3 rfl) ?_
            refine hc_g_key G (in_X0_newestIn_X0) hP (hk) 2 (by decide) (by decide +kernel) (.ref (ad (25 + k))) rfl rfl dX0_newestIn_44 ?_
            refine lv_iload hx hb dX0_newestIn_47 (lv_at hl 0 rfl) ?_
            refine va_lald hx hb G.2.2.2.2.1 hP (25 + k) 1 (hc_at_st (hk)) rfl (hs_in (k := i) (n := 16) (nI_clamp (by omega)) (hs_inN (by omega) (by decide))) dX0_newestIn_49 ?_
            rw [show Int32.toNatClampNeg (nI (i)) = i from nI_clamp (by omega)]
            refine lv_lstore (lv' := [(6, .long (hc_stA (x) (k) (i))), (8, .int (nI (i))), (5, .int (hs_ix (hs_bi (hc_stA x k) a u (i)))), (0, .ref (ad (9 + k))), (1, .long (a)), (3, .long (u))]) hx hb dX0_newestIn_50 hl (by decide) rfl (fun ls hl => ?_)
            refine lv_iload hx hb dX0_newestIn_52 (lv_at hl 1 rfl) ?_
            refine lv_istore (lv' := [(5, .int (nI (i))), (6, .long (hc_stA (x) (k) (i))), (8, .int (nI (i))), (0, .ref (ad (9 + k))), (1, .long (a)), (3, .long (u))]) hx hb dX0_newestIn_54 hl (by decide) rfl (fun ls hl => ?_)
            refine lv_iinc (v := nI (i + 1)) (lv' := [(8, .int (nI (i + 1))), (5, .int (nI (i))), (6, .long (hc_stA (x) (k) (i))), (0, .ref (ad (9 + k))), (1, .long (a)), (3, .long (u))]) hx hb dX0_newestIn_56 hl (k := 2) rfl (nI_1 i) (by decide) rfl (fun ls hl => ?_)
            refine lv_goto (tgt := 9) hx hb dX0_newestIn_59 (by decide) ?_
            have e1 : hs_bi (hc_stA x k) a u (i + 1) = some i := if_pos ⟨c_2, Int64.not_lt.mp c_3⟩
            refine ih (i + 1) (by omega) (by omega) ls ?_
            rw [e1]; exact lv_sub hl [0, 2, 1, 3, 4, 5] rfl
  refine lv_iconst (v := (-1)) hx hb dX0_newestIn_0 (by decide) ?_
  refine lv_istore (lv' := [(5, .int ((-1))), (0, .ref (ad (9 + k))), (1, .long (a)), (3, .long (u))]) hx hb dX0_newestIn_1 hl (by decide) rfl (fun ls hl => ?_)
  refine lv_lload_n hx hb dX0_newestIn_3 rfl (lv_at hl 2 rfl) ?_
  refine lv_lstore (lv' := [(6, .long (a)), (5, .int ((-1))), (0, .ref (ad (9 + k))), (1, .long (a)), (3, .long (u))]) hx hb dX0_newestIn_4 hl (by decide) rfl (fun ls hl => ?_)
  refine lv_iconst (v := 0) hx hb dX0_newestIn_6 (by decide) ?_
  refine lv_istore (lv' := [(8, .int (0)), (6, .long (a)), (5, .int ((-1))), (0, .ref (ad (9 + k))), (1, .long (a)), (3, .long (u))]) hx hb dX0_newestIn_7 hl (by decide) rfl (fun ls hl => ?_)
  exact loop ((x.vk k).length + 1) 0 (Nat.zero_le _) (by omega) ls (lv_sub hl [0, 1, 2, 3, 4, 5] rfl)
theorem in_X0_greatestStampIn_X0 : ∀ w ∈ u_ws RX0 TX0 8, w ∈ wsX0_greatestStampIn := by decide +kernel
set_option maxHeartbeats 4000000 in
set_option maxRecDepth 100000 in
/-- Key.greatestStampIn -/
theorem c_greatest (l : Launch) (D : va_G) (cy : Nat → ClassId) (ad : Nat → Nat) (ho : hc_ok ad) (x : HM) {k : Nat} (hk : k < 16) (hn16 : (x.vk k).length ≤ 16) (a u : Int64) : Ct l yX0_greatestStampIn wsX0_greatestStampIn ({ frames := 1, cells := 0, slots := 0, locals := 28 }) D cy (hc_A ad) [.ref (ad (9 + k)), .long (a), .long (u)] (hc_mem ad cy (x)) (some (.long (hs_gs (hs_best a u (x.vk k))))) (hc_mem ad cy (x)) := by
  refine ct_of (cc := cX0_greatestStampIn) (maxL := 6) (ret := (some .long)) rfl (by decide) (Nat.le_of_ble_eq_true rfl) ?_
  intro p e s m below meth c ls G hx hb hml hr hlocks hP hS hl
  have hl : lv_has ls 6 [(0, .ref (ad (9 + k))), (1, .long (a)), (3, .long (u))] := hl
  have hbi := hs_best_bi a u _ (x.vk k) rfl
  refine lv_aload_n hx hb dX0_greatestStampIn_0 rfl (lv_at hl 0 rfl) ?_
  refine lv_lload_n hx hb dX0_greatestStampIn_1 rfl (lv_at hl 1 rfl) ?_
  refine lv_lload_n hx hb dX0_greatestStampIn_2 rfl (lv_at hl 2 rfl) ?_
  refine hs_callV (n := 2) (As := [.long (a), .long (u)]) (rest := []) G hml (c_newestIn l D cy ad ho (x) (hk) hn16 (a) (u)) gX0_greatestStampIn_X0_newestIn rfl rfl rfl (by decide +kernel) ⟨Nat.le_of_ble_eq_true rfl, Nat.le_of_ble_eq_true rfl⟩ (ci := 0) rfl rfl (hc_at_key (hk)) rfl hl.1 (Nat.le_of_ble_eq_true rfl) ⟨Nat.zero_le _, Nat.zero_le _⟩ hP hS (fun _ h => h) rfl dX0_greatestStampIn_3 (fun H locs hP hS _ _ => ?_)
  refine lv_istore (lv' := [(5, .int (hs_ix (hs_bi (hc_stA (x) (k)) (a) (u) (HM.vk (x) (k)).length))), (0, .ref (ad (9 + k))), (1, .long (a)), (3, .long (u))]) hx hb dX0_greatestStampIn_6 hl (by decide) rfl (fun ls hl => ?_)
  refine lv_iload hx hb dX0_greatestStampIn_8 (lv_at hl 0 rfl) ?_
  refine lv_iconst (v := (-1)) hx hb dX0_greatestStampIn_10 (by decide) ?_
  refine lv_icmp_ne (tgt := 20) hx hb dX0_greatestStampIn_11 (by decide) (fun c_1 => ?_) (fun c_1 => ?_)
  · obtain ⟨j, hj⟩ : ∃ j, hs_bi (hc_stA x k) a u (x.vk k).length = some j := Option.ne_none_iff_exists'.mp (fun q => c_1 ((hs_ix_m1 (by omega)).mpr q))
    have hjl := hs_bi_lt hj
    have hjx : hs_ix (hs_bi (hc_stA (x) (k)) (a) (u) (HM.vk (x) (k)).length) = nI j := by rw [hj]; rfl
    refine lv_aload_n hx hb dX0_greatestStampIn_20 rfl (lv_at hl 1 rfl) ?_
    refine hc_g_key G (in_X0_greatestStampIn_X0) hP (hk) 2 (by decide) (by decide +kernel) (.ref (ad (25 + k))) rfl rfl dX0_greatestStampIn_21 ?_
    refine lv_iload hx hb dX0_greatestStampIn_24 (lv_at hl 0 rfl) ?_
    refine va_lald hx hb G.2.2.2.2.1 hP (25 + k) 1 (hc_at_st (hk)) rfl (hs_in (k := j) (n := 16) (by rw [hjx]; exact nI_clamp (by omega)) (by rw [hjx]; exact hs_inN (by omega) (by decide))) dX0_greatestStampIn_26 ?_
    rw [show Int32.toNatClampNeg (hs_ix (hs_bi (hc_stA (x) (k)) (a) (u) (HM.vk (x) (k)).length)) = j from by rw [hjx]; exact nI_clamp (by omega)]
    exact ct_lret hx hb hr hlocks (by rw [hbi]; show _ = some (Value.long (hs_gs (Option.map _ (hs_bi (hc_stA x k) a u (x.vk k).length)))); rw [hj]; rfl) hP hS dX0_greatestStampIn_27
  · have hj : hs_bi (hc_stA x k) a u (x.vk k).length = none := (hs_ix_m1 (by omega)).mp c_1
    refine lv_ldc2 (v := (-1)) hx hb G.2.2.2.1 (G.2.2.1 (.constantLong RX0 41 (-1)) (by decide +kernel)) dX0_greatestStampIn_14 ?_
    refine lv_goto (tgt := 27) hx hb dX0_greatestStampIn_17 (by decide) ?_
    exact ct_lret hx hb hr hlocks (by rw [hbi]; show _ = some (Value.long (hs_gs (Option.map _ (hs_bi (hc_stA x k) a u (x.vk k).length)))); rw [hj]; rfl) hP hS dX0_greatestStampIn_27
theorem in_X0_valueAt_X0 : ∀ w ∈ u_ws RX0 TX0 8, w ∈ wsX0_valueAt := by decide +kernel
set_option maxHeartbeats 4000000 in
set_option maxRecDepth 100000 in
/-- Key.valueAt -/
theorem c_valueAt (l : Launch) (D : va_G) (cy : Nat → ClassId) (ad : Nat → Nat) (ho : hc_ok ad) (x : HM) {k : Nat} (hk : k < 16) (hn16 : (x.vk k).length ≤ 16) (u : Int64) : Ct l yX0_valueAt wsX0_valueAt ({ frames := 1, cells := 0, slots := 0, locals := 28 }) D cy (hc_A ad) [.ref (ad (9 + k)), .long (u)] (hc_mem ad cy (x)) (some (.int (hs_gv (hs_best (-1) u (x.vk k))))) (hc_mem ad cy (x)) := by
  refine ct_of (cc := cX0_valueAt) (maxL := 4) (ret := (some .int)) rfl (by decide) (Nat.le_of_ble_eq_true rfl) ?_
  intro p e s m below meth c ls G hx hb hml hr hlocks hP hS hl
  have hl : lv_has ls 4 [(0, .ref (ad (9 + k))), (1, .long (u))] := hl
  have hbi := hs_best_bi (-1) u _ (x.vk k) rfl
  refine lv_aload_n hx hb dX0_valueAt_0 rfl (lv_at hl 0 rfl) ?_
  refine lv_ldc2 (v := (-1)) hx hb G.2.2.2.1 (G.2.2.1 (.constantLong RX0 41 (-1)) (by decide +kernel)) dX0_valueAt_1 ?_
  refine lv_lload_n hx hb dX0_valueAt_4 rfl (lv_at hl 1 rfl) ?_
  refine hs_callV (n := 2) (As := [.long ((-1)), .long (u)]) (rest := []) G hml (c_newestIn l D cy ad ho (x) (hk) hn16 ((-1)) (u)) gX0_valueAt_X0_newestIn rfl rfl rfl (by decide +kernel) ⟨Nat.le_of_ble_eq_true rfl, Nat.le_of_ble_eq_true rfl⟩ (ci := 0) rfl rfl (hc_at_key (hk)) rfl hl.1 (Nat.le_of_ble_eq_true rfl) ⟨Nat.zero_le _, Nat.zero_le _⟩ hP hS (fun _ h => h) rfl dX0_valueAt_5 (fun H locs hP hS _ _ => ?_)
  refine lv_istore_n (lv' := [(3, .int (hs_ix (hs_bi (hc_stA (x) (k)) ((-1)) (u) (HM.vk (x) (k)).length))), (0, .ref (ad (9 + k))), (1, .long (u))]) hx hb dX0_valueAt_8 rfl hl (by decide) rfl (fun ls hl => ?_)
  refine lv_iload_n hx hb dX0_valueAt_9 rfl (lv_at hl 0 rfl) ?_
  refine lv_iconst (v := (-1)) hx hb dX0_valueAt_10 (by decide) ?_
  refine lv_icmp_ne (tgt := 18) hx hb dX0_valueAt_11 (by decide) (fun c_1 => ?_) (fun c_1 => ?_)
  · obtain ⟨j, hj⟩ : ∃ j, hs_bi (hc_stA x k) (-1) u (x.vk k).length = some j := Option.ne_none_iff_exists'.mp (fun q => c_1 ((hs_ix_m1 (by omega)).mpr q))
    have hjl := hs_bi_lt hj
    have hjx : hs_ix (hs_bi (hc_stA (x) (k)) ((-1)) (u) (HM.vk (x) (k)).length) = nI j := by rw [hj]; rfl
    refine lv_aload_n hx hb dX0_valueAt_18 rfl (lv_at hl 1 rfl) ?_
    refine hc_g_key G (in_X0_valueAt_X0) hP (hk) 3 (by decide) (by decide +kernel) (.ref (ad (41 + k))) rfl rfl dX0_valueAt_19 ?_
    refine lv_iload_n hx hb dX0_valueAt_22 rfl (lv_at hl 0 rfl) ?_
    refine va_iald hx hb G.2.2.2.2.1 hP (41 + k) 0 (hc_at_va (hk)) rfl (hs_in (k := j) (n := 16) (by rw [hjx]; exact nI_clamp (by omega)) (by rw [hjx]; exact hs_inN (by omega) (by decide))) dX0_valueAt_23 ?_
    rw [show Int32.toNatClampNeg (hs_ix (hs_bi (hc_stA (x) (k)) ((-1)) (u) (HM.vk (x) (k)).length)) = j from by rw [hjx]; exact nI_clamp (by omega)]
    exact ct_iret hx hb hr hlocks (by rw [hbi]; show _ = some (Value.int (hs_gv (Option.map _ (hs_bi (hc_stA x k) (-1) u (x.vk k).length)))); rw [hj]; rfl) hP hS dX0_valueAt_24
  · have hj : hs_bi (hc_stA x k) (-1) u (x.vk k).length = none := (hs_ix_m1 (by omega)).mp c_1
    refine lv_iconst (v := 0) hx hb dX0_valueAt_14 (by decide) ?_
    refine lv_goto (tgt := 24) hx hb dX0_valueAt_15 (by decide) ?_
    exact ct_iret hx hb hr hlocks (by rw [hbi]; show _ = some (Value.int (hs_gv (Option.map _ (hs_bi (hc_stA x k) (-1) u (x.vk k).length)))); rw [hj]; rfl) hP hS dX0_valueAt_24

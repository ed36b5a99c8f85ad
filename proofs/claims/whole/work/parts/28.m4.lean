theorem in_X4_tick_X4 : ∀ w ∈ u_ws RX4 TX4 21, w ∈ wsX4_tick := by decide +kernel
set_option maxHeartbeats 4000000 in
set_option maxRecDepth 100000 in
/-- reference: r_tick -/
theorem r_tick (l : Launch) (D : va_G) (cy : Nat → ClassId) (bd : Nat → Nat) (ho : hm_ok bd) (x : HM) (B : Int) (hIn : x.In B) (z r : Int32) : Ct l yX4_tick wsX4_tick ({ frames := 2, cells := 0, slots := 0, locals := 48 }) D cy (hm_A bd) [.ref (bd 0), .int (z), .int (r)] (hm_mem bd cy (x)) (some (.int (x.tickA z r))) (hm_mem bd cy (x.tickM z r)) := by
  rcases hs_rng z (b := 4) (by decide) with hz | ⟨i, hi, rfl⟩
  · refine ct_of (cc := cX4_tick) (maxL := 4) (ret := (some .int)) rfl (by decide) (Nat.le_of_ble_eq_true rfl) ?_
    intro p e s m below meth c ls G hx hb hml hr hlocks hP hS hl
    have hD := hm_D ho cy (x)
    have hl : lv_has ls 4 [(0, .ref (bd 0)), (1, .int (z)), (2, .int (r))] := hl
    refine lv_iload_n hx hb dX4_tick_0 rfl (lv_at hl 1 rfl) ?_
    refine lv_if_lt (tgt := 9) hx hb dX4_tick_1 (by decide) (fun c_1 => ?_) (fun c_1 => ?_)
    · refine lv_iconst (v := (-1)) hx hb dX4_tick_9 (by decide) ?_
      exact ct_iret hx hb hr hlocks (by rw [HM.tickA, hs_n_out hz]) (by rw [HM.tickM, hs_n_out hz]; exact hP) hS dX4_tick_10
    · refine lv_iload_n hx hb dX4_tick_4 rfl (lv_at hl 1 rfl) ?_
      refine lv_iconst (v := 3) hx hb dX4_tick_5 (by decide) ?_
      refine lv_icmp_le (tgt := 11) hx hb dX4_tick_6 (by decide) (fun c_2 => ?_) (fun c_2 => ?_)
      · exact absurd c_2 (Int32.not_le.mpr (hs_gt_of hz c_1 (by decide)))
      · refine lv_iconst (v := (-1)) hx hb dX4_tick_9 (by decide) ?_
        exact ct_iret hx hb hr hlocks (by rw [HM.tickA, hs_n_out hz]) (by rw [HM.tickM, hs_n_out hz]; exact hP) hS dX4_tick_10
  · have eM := hs_n_in hi (show 4 < 2 ^ 31 by decide)
    have eA : x.tickA (nI i) r = if r < x.rd i then -2 else if hs_ra x.rd i r 4 0 then -2 else 0 := by rw [HM.tickA, eM]
    have eB : x.tickM (nI i) r = if r < x.rd i then x else if hs_ra x.rd i r 4 0 then x else (x.u_rd i r).ev i := by rw [HM.tickM, eM]
    rw [eA, eB]
    refine ct_of (cc := cX4_tick) (maxL := 4) (ret := (some .int)) rfl (by decide) (Nat.le_of_ble_eq_true rfl) ?_
    intro p e s m below meth c ls G hx hb hml hr hlocks hP hS hl
    have hD := hm_D ho cy (x)
    have hl : lv_has ls 4 [(0, .ref (bd 0)), (1, .int (nI i)), (2, .int (r))] := hl
    have loop : ¬ r < x.rd i → ∀ (n j : Nat), j + n = 4 → hs_ra x.rd i r n j = hs_ra x.rd i r 4 0 → ∀ ls : Array Slot, lv_has ls 4 [(3, .int (nI j)), (0, .ref (bd 0)), (1, .int (nI i)), (2, .int (r))] → W p l e ({ frames := 2, cells := 0, slots := 0, locals := 48 }) s m [.ref (bd 0), .int (nI i), .int r].toArray below meth c s.heap [] 0 0 (MQ below (hs_Post D (some (.int (if r < x.rd i then -2 else if hs_ra x.rd i r 4 0 then -2 else 0))) (hm_mem bd cy (if r < x.rd i then x else if hs_ra x.rd i r 4 0 then x else (x.u_rd i r).ev i)) (hm_A bd)) [.ref (bd 0), .int (nI i), .int r].toArray s 0 0 (hm_A bd)) (F0 m 26 ls []) := by
      intro hr0
      have hrp : 0 ≤ r.toInt := by have h1 := hIn.2.2.2.1 i hi; have h2 := Int32.le_iff_toInt_le.mp (Int32.not_lt.mp hr0); omega
      intro n
      induction n with
      | zero =>
        intro j hj he ls hl
        refine lv_iload_n hx hb dX4_tick_26 rfl (lv_at hl 0 rfl) ?_
        refine lv_iconst (v := 4) hx hb dX4_tick_27 (by decide) ?_
        refine lv_icmp_ge (tgt := 62) hx hb dX4_tick_28 (by decide) (fun c_1 => ?_) (fun c_1 => ?_)
        · have hra : hs_ra x.rd i r 4 0 = false := he.symm
          refine lv_aload_n hx hb dX4_tick_62 rfl (lv_at hl 1 rfl) ?_
          refine hm_gf G in_X4_tick_X4 hP rfl 0 (by decide) (by decide +kernel) (.ref (bd 1)) rfl rfl dX4_tick_63 ?_
          refine lv_iload_n hx hb dX4_tick_66 rfl (lv_at hl 2 rfl) ?_
          refine lv_iload_n hx hb dX4_tick_67 rfl (lv_at hl 3 rfl) ?_
          refine hm_sI G hP hD hS 1 (HM.rd (x)) 4 rfl (i) (nI_clamp (by omega)) (hs_inN (by omega) (by decide)) (hm_mem bd cy (HM.u_rd (x) (i) (r))) hm_s_rd dX4_tick_68 (fun H locs hP hD hS => ?_)
          refine lv_aload_n hx hb dX4_tick_69 rfl (lv_at hl 1 rfl) ?_
          refine lv_iload_n hx hb dX4_tick_70 rfl (lv_at hl 2 rfl) ?_
          refine hs_callV (n := 1) (As := [.int (nI i)]) (rest := []) G hml (r_event l D cy bd ho (HM.u_rd (x) (i) (r)) (show i < 4 by first | omega | exact hi)) gX4_tick_X4_event rfl rfl rfl (by decide +kernel) ⟨Nat.le_of_ble_eq_true rfl, Nat.le_of_ble_eq_true rfl⟩ (q0 := 0) (ci := 4) (fs := hm_objL bd (HM.u_rd (x) (i) (r))) rfl rfl rfl rfl hl.1 (Nat.le_of_ble_eq_true rfl) ⟨Nat.zero_le _, Nat.zero_le _⟩ hP hS (fun _ h => h) rfl dX4_tick_71 (fun H locs hP hS _ _ => ?_)
          have hD := hm_D ho cy (HM.ev (HM.u_rd (x) (i) (r)) (i))
          refine lv_iconst (v := 0) hx hb dX4_tick_74 (by decide) ?_
          exact ct_iret hx hb hr hlocks (by rw [if_neg hr0, if_neg (by rw [hra]; decide)]) (by rw [if_neg hr0, if_neg (by rw [hra]; decide)]; exact hP) hS dX4_tick_75
        · exact absurd (show (4 : Int32) ≤ nI j from nI_le (a := 4) (by omega) (by omega)) c_1
      | succ n ih =>
        intro j hj he ls hl
        refine lv_iload_n hx hb dX4_tick_26 rfl (lv_at hl 0 rfl) ?_
        refine lv_iconst (v := 4) hx hb dX4_tick_27 (by decide) ?_
        refine lv_icmp_ge (tgt := 62) hx hb dX4_tick_28 (by decide) (fun c_1 => ?_) (fun c_1 => ?_)
        · exact absurd c_1 (nI_ge (b := 4) (by omega) (by decide))
        · have hj4 : j < 4 := by omega
          have hfj := hIn.2.2.2.1 j hj4
          refine lv_iload_n hx hb dX4_tick_31 rfl (lv_at hl 0 rfl) ?_
          refine lv_iload_n hx hb dX4_tick_32 rfl (lv_at hl 2 rfl) ?_
          refine lv_icmp_eq (tgt := 56) hx hb dX4_tick_33 (by decide) (fun c_2 => ?_) (fun c_2 => ?_)
          · have hji : j = i := (nI_eq (by omega) (by omega)).mp c_2
            refine lv_iinc (v := nI (j + 1)) (lv' := [(3, .int (nI (j + 1))), (0, .ref (bd 0)), (1, .int (nI i)), (2, .int (r))]) hx hb dX4_tick_56 hl (k := 0) rfl (nI_1 j) (by decide) rfl (fun ls hl => ?_)
            refine lv_goto (tgt := 26) hx hb dX4_tick_59 (by decide) ?_
            exact ih (j + 1) (by omega) (by rw [← he, hs_ra_succ, if_neg (fun q => q.1 hji)]) ls (lv_sub hl [0, 1, 2, 3] rfl)
          · have hji : ¬ j = i := fun q => c_2 (by rw [q])
            refine lv_iload_n hx hb dX4_tick_36 rfl (lv_at hl 3 rfl) ?_
            refine lv_i2l (v := (Int32.toInt64 (r))) hx hb dX4_tick_37 rfl ?_
            refine lv_aload_n hx hb dX4_tick_38 rfl (lv_at hl 1 rfl) ?_
            refine hm_gf G in_X4_tick_X4 hP rfl 0 (by decide) (by decide +kernel) (.ref (bd 1)) rfl rfl dX4_tick_39 ?_
            refine lv_iload_n hx hb dX4_tick_42 rfl (lv_at hl 0 rfl) ?_
            refine hm_lI G hP 1 (HM.rd (x)) 4 rfl (j) (nI_clamp (by omega)) (hs_inN (by omega) (by decide)) (HM.rd (x) (j)) rfl dX4_tick_43 ?_
            refine lv_i2l (v := (Int32.toInt64 (HM.rd (x) (j)))) hx hb dX4_tick_44 rfl ?_
            refine lv_lsub hx hb dX4_tick_45 ?_
            refine lv_ldc2 (v := 10) hx hb G.2.2.2.1 (G.2.2.1 (.constantLong RX4 70 10) (by decide +kernel)) dX4_tick_46 ?_
            refine hs_lle (x := ((Int32.toInt64 (r)) - (Int32.toInt64 (HM.rd (x) (j))))) (y := 10) (tgt := 56) hx hb dX4_tick_49 dX4_tick_50 (by decide) (fun c_3 => ?_) (fun c_3 => ?_)
            · have hf : ¬ (10 : Int32) < r - x.rd j := fun q => c_3 ((hs_ra_l hrp hfj).mpr q)
              refine lv_iinc (v := nI (j + 1)) (lv' := [(3, .int (nI (j + 1))), (0, .ref (bd 0)), (1, .int (nI i)), (2, .int (r))]) hx hb dX4_tick_56 hl (k := 0) rfl (nI_1 j) (by decide) rfl (fun ls hl => ?_)
              refine lv_goto (tgt := 26) hx hb dX4_tick_59 (by decide) ?_
              exact ih (j + 1) (by omega) (by rw [← he, hs_ra_succ, if_neg (fun q => hf q.2)]) ls (lv_sub hl [0, 1, 2, 3] rfl)
            · have hf : (10 : Int32) < r - x.rd j := (hs_ra_l hrp hfj).mp c_3
              refine lv_bipush (v := (-2)) hx hb dX4_tick_53 (by decide) ?_
              have hra : hs_ra x.rd i r 4 0 = true := by rw [← he, hs_ra_succ]; exact if_pos ⟨hji, hf⟩
              exact ct_iret hx hb hr hlocks (by rw [if_neg hr0, if_pos hra]) (by rw [if_neg hr0, if_pos hra]; exact hP) hS dX4_tick_55
    refine lv_iload_n hx hb dX4_tick_0 rfl (lv_at hl 1 rfl) ?_
    refine lv_if_lt (tgt := 9) hx hb dX4_tick_1 (by decide) (fun c_1 => ?_) (fun c_1 => ?_)
    · exact absurd c_1 (nI_pos (by omega))
    · refine lv_iload_n hx hb dX4_tick_4 rfl (lv_at hl 1 rfl) ?_
      refine lv_iconst (v := 3) hx hb dX4_tick_5 (by decide) ?_
      refine lv_icmp_le (tgt := 11) hx hb dX4_tick_6 (by decide) (fun c_2 => ?_) (fun c_2 => ?_)
      · refine lv_iload_n hx hb dX4_tick_11 rfl (lv_at hl 2 rfl) ?_
        refine lv_aload_n hx hb dX4_tick_12 rfl (lv_at hl 0 rfl) ?_
        refine hm_gf G in_X4_tick_X4 hP rfl 0 (by decide) (by decide +kernel) (.ref (bd 1)) rfl rfl dX4_tick_13 ?_
        refine lv_iload_n hx hb dX4_tick_16 rfl (lv_at hl 1 rfl) ?_
        refine hm_lI G hP 1 (HM.rd (x)) 4 rfl (i) (nI_clamp (by omega)) (hs_inN (by omega) (by decide)) (HM.rd (x) (i)) rfl dX4_tick_17 ?_
        refine lv_icmp_ge (tgt := 24) hx hb dX4_tick_18 (by decide) (fun c_3 => ?_) (fun c_3 => ?_)
        · refine lv_iconst (v := 0) hx hb dX4_tick_24 (by decide) ?_
          refine lv_istore_n (lv' := [(3, .int (0)), (0, .ref (bd 0)), (1, .int (nI i)), (2, .int (r))]) hx hb dX4_tick_25 rfl hl (by decide) rfl (fun ls hl => ?_)
          exact loop (Int32.not_lt.mpr c_3) 4 0 rfl rfl ls (lv_sub hl [0, 1, 2, 3] rfl)
        · refine lv_bipush (v := (-2)) hx hb dX4_tick_21 (by decide) ?_
          exact ct_iret hx hb hr hlocks (by rw [if_pos (Int32.not_le.mp c_3)]) (by rw [if_pos (Int32.not_le.mp c_3)]; exact hP) hS dX4_tick_23
      · exact absurd (Int32.not_lt.mp (hs_le_in hi (by decide))) c_2
theorem in_X4_abort_X4 : ∀ w ∈ u_ws RX4 TX4 21, w ∈ wsX4_abort := by decide +kernel
set_option maxHeartbeats 4000000 in
set_option maxRecDepth 100000 in
/-- reference: r_abort -/
theorem r_abort (l : Launch) (D : va_G) (cy : Nat → ClassId) (bd : Nat → Nat) (ho : hm_ok bd) (x : HM) (B : Int) (hIn : x.In B) (hph : hs_Ph x) (z : Int32) : Ct l yX4_abort wsX4_abort ({ frames := 2, cells := 0, slots := 0, locals := 48 }) D cy (hm_A bd) [.ref (bd 0), .int (z)] (hm_mem bd cy (x)) (some (.int (x.codeA z))) (hm_mem bd cy (x.abortM z)) := by
  rcases hs_rng z (b := 8) (by decide) with hz | ⟨t, ht, rfl⟩
  · have eA : x.codeA z = -1 := by rw [HM.codeA, hs_n_out hz]
    refine ct_of (cc := cX4_abort) (maxL := 3) (ret := (some .int)) rfl (by decide) (Nat.le_of_ble_eq_true rfl) ?_
    intro p e s m below meth c ls G hx hb hml hr hlocks hP hS hl
    have hD := hm_D ho cy (x)
    have hl : lv_has ls 3 [(0, .ref (bd 0)), (1, .int (z))] := hl
    refine lv_aload_n hx hb dX4_abort_0 rfl (lv_at hl 0 rfl) ?_
    refine lv_iload_n hx hb dX4_abort_1 rfl (lv_at hl 1 rfl) ?_
    refine hs_callV (n := 1) (As := [.int (z)]) (rest := []) G hml (r_refused l D cy bd ho (x) (hph) (z)) gX4_abort_X4_refused rfl rfl rfl (by decide +kernel) ⟨Nat.le_of_ble_eq_true rfl, Nat.le_of_ble_eq_true rfl⟩ (q0 := 0) (ci := 4) (fs := hm_objL bd (x)) rfl rfl rfl rfl hl.1 (Nat.le_of_ble_eq_true rfl) ⟨Nat.zero_le _, Nat.zero_le _⟩ hP hS (fun _ h => h) rfl dX4_abort_2 (fun H locs hP hS _ _ => ?_)
    refine lv_istore_n (lv' := [(2, .int (HM.codeA (x) (z))), (0, .ref (bd 0)), (1, .int (z))]) hx hb dX4_abort_5 rfl hl (by decide) rfl (fun ls hl => ?_)
    refine lv_iload_n hx hb dX4_abort_6 rfl (lv_at hl 0 rfl) ?_
    refine lv_if_eq (tgt := 12) hx hb dX4_abort_7 (by decide) (fun c_1 => ?_) (fun c_1 => ?_)
    · exact absurd (eA.symm.trans c_1) (by decide)
    · refine lv_iload_n hx hb dX4_abort_10 rfl (lv_at hl 0 rfl) ?_
      exact ct_iret hx hb hr hlocks rfl (by rw [HM.abortM, hs_n_out hz]; exact hP) hS dX4_abort_11
  · have eM := hs_n_in ht (show 8 < 2 ^ 31 by decide)
    have eC : x.codeA (nI t) = x.code t := by rw [HM.codeA, eM]
    have eB : x.abortM (nI t) = if x.code t = 0 then x.u_ph t 3 else x := by rw [HM.abortM, eM]
    have hg := hIn.gt ht
    have hg2 : HM.gt (HM.ev (x) (HM.gt (x) (t))) (t) < 4 := hg
    refine ct_of (cc := cX4_abort) (maxL := 3) (ret := (some .int)) rfl (by decide) (Nat.le_of_ble_eq_true rfl) ?_
    intro p e s m below meth c ls G hx hb hml hr hlocks hP hS hl
    have hD := hm_D ho cy (x)
    have hl : lv_has ls 3 [(0, .ref (bd 0)), (1, .int (nI t))] := hl
    refine lv_aload_n hx hb dX4_abort_0 rfl (lv_at hl 0 rfl) ?_
    refine lv_iload_n hx hb dX4_abort_1 rfl (lv_at hl 1 rfl) ?_
    refine hs_callV (n := 1) (As := [.int (nI t)]) (rest := []) G hml (r_refused l D cy bd ho (x) (hph) (nI t)) gX4_abort_X4_refused rfl rfl rfl (by decide +kernel) ⟨Nat.le_of_ble_eq_true rfl, Nat.le_of_ble_eq_true rfl⟩ (q0 := 0) (ci := 4) (fs := hm_objL bd (x)) rfl rfl rfl rfl hl.1 (Nat.le_of_ble_eq_true rfl) ⟨Nat.zero_le _, Nat.zero_le _⟩ hP hS (fun _ h => h) rfl dX4_abort_2 (fun H locs hP hS _ _ => ?_)
    refine lv_istore_n (lv' := [(2, .int (HM.codeA (x) (nI t))), (0, .ref (bd 0)), (1, .int (nI t))]) hx hb dX4_abort_5 rfl hl (by decide) rfl (fun ls hl => ?_)
    refine lv_iload_n hx hb dX4_abort_6 rfl (lv_at hl 0 rfl) ?_
    refine lv_if_eq (tgt := 12) hx hb dX4_abort_7 (by decide) (fun c_1 => ?_) (fun c_1 => ?_)
    · refine lv_aload_n hx hb dX4_abort_12 rfl (lv_at hl 1 rfl) ?_
      refine hm_gf G in_X4_abort_X4 hP rfl 2 (by decide) (by decide +kernel) (.ref (bd 3)) rfl rfl dX4_abort_13 ?_
      refine lv_iload_n hx hb dX4_abort_16 rfl (lv_at hl 2 rfl) ?_
      refine lv_iconst (v := 3) hx hb dX4_abort_17 (by decide) ?_
      refine hm_sI G hP hD hS 3 (HM.ph (x)) 8 rfl (t) (nI_clamp (by omega)) (hs_inN (by omega) (by decide)) (hm_mem bd cy (HM.u_ph (x) (t) (3))) hm_s_ph dX4_abort_18 (fun H locs hP hD hS => ?_)
      refine lv_iconst (v := 0) hx hb dX4_abort_19 (by decide) ?_
      exact ct_iret hx hb hr hlocks (by rw [c_1]) (by rw [eB, if_pos (eC.symm.trans c_1)]; exact hP) hS dX4_abort_20
    · refine lv_iload_n hx hb dX4_abort_10 rfl (lv_at hl 0 rfl) ?_
      exact ct_iret hx hb hr hlocks rfl (by rw [eB, if_neg (fun q => c_1 (eC.trans q))]; exact hP) hS dX4_abort_11
theorem in_X4_heartbeat_X4 : ∀ w ∈ u_ws RX4 TX4 21, w ∈ wsX4_heartbeat := by decide +kernel
set_option maxHeartbeats 4000000 in
set_option maxRecDepth 100000 in
/-- reference: r_heartbeat -/
theorem r_heartbeat (l : Launch) (D : va_G) (cy : Nat → ClassId) (bd : Nat → Nat) (ho : hm_ok bd) (x : HM) (B : Int) (hIn : x.In B) (hph : hs_Ph x) (z : Int32) : Ct l yX4_heartbeat wsX4_heartbeat ({ frames := 2, cells := 0, slots := 0, locals := 48 }) D cy (hm_A bd) [.ref (bd 0), .int (z)] (hm_mem bd cy (x)) (some (.int (x.codeA z))) (hm_mem bd cy (x.heartM z)) := by
  rcases hs_rng z (b := 8) (by decide) with hz | ⟨t, ht, rfl⟩
  · have eA : x.codeA z = -1 := by rw [HM.codeA, hs_n_out hz]
    refine ct_of (cc := cX4_heartbeat) (maxL := 3) (ret := (some .int)) rfl (by decide) (Nat.le_of_ble_eq_true rfl) ?_
    intro p e s m below meth c ls G hx hb hml hr hlocks hP hS hl
    have hD := hm_D ho cy (x)
    have hl : lv_has ls 3 [(0, .ref (bd 0)), (1, .int (z))] := hl
    refine lv_aload_n hx hb dX4_heartbeat_0 rfl (lv_at hl 0 rfl) ?_
    refine lv_iload_n hx hb dX4_heartbeat_1 rfl (lv_at hl 1 rfl) ?_
    refine hs_callV (n := 1) (As := [.int (z)]) (rest := []) G hml (r_refused l D cy bd ho (x) (hph) (z)) gX4_heartbeat_X4_refused rfl rfl rfl (by decide +kernel) ⟨Nat.le_of_ble_eq_true rfl, Nat.le_of_ble_eq_true rfl⟩ (q0 := 0) (ci := 4) (fs := hm_objL bd (x)) rfl rfl rfl rfl hl.1 (Nat.le_of_ble_eq_true rfl) ⟨Nat.zero_le _, Nat.zero_le _⟩ hP hS (fun _ h => h) rfl dX4_heartbeat_2 (fun H locs hP hS _ _ => ?_)
    refine lv_istore_n (lv' := [(2, .int (HM.codeA (x) (z))), (0, .ref (bd 0)), (1, .int (z))]) hx hb dX4_heartbeat_5 rfl hl (by decide) rfl (fun ls hl => ?_)
    refine lv_iload_n hx hb dX4_heartbeat_6 rfl (lv_at hl 0 rfl) ?_
    refine lv_if_eq (tgt := 12) hx hb dX4_heartbeat_7 (by decide) (fun c_1 => ?_) (fun c_1 => ?_)
    · exact absurd (eA.symm.trans c_1) (by decide)
    · refine lv_iload_n hx hb dX4_heartbeat_10 rfl (lv_at hl 0 rfl) ?_
      exact ct_iret hx hb hr hlocks rfl (by rw [HM.heartM, hs_n_out hz]; exact hP) hS dX4_heartbeat_11
  · have eM := hs_n_in ht (show 8 < 2 ^ 31 by decide)
    have eC : x.codeA (nI t) = x.code t := by rw [HM.codeA, eM]
    have eB : x.heartM (nI t) = if x.code t = 0 then (x.ev (x.gt t)).beat t else x := by rw [HM.heartM, eM]
    have hg := hIn.gt ht
    have hg2 : HM.gt (HM.ev (x) (HM.gt (x) (t))) (t) < 4 := hg
    refine ct_of (cc := cX4_heartbeat) (maxL := 3) (ret := (some .int)) rfl (by decide) (Nat.le_of_ble_eq_true rfl) ?_
    intro p e s m below meth c ls G hx hb hml hr hlocks hP hS hl
    have hD := hm_D ho cy (x)
    have hl : lv_has ls 3 [(0, .ref (bd 0)), (1, .int (nI t))] := hl
    refine lv_aload_n hx hb dX4_heartbeat_0 rfl (lv_at hl 0 rfl) ?_
    refine lv_iload_n hx hb dX4_heartbeat_1 rfl (lv_at hl 1 rfl) ?_
    refine hs_callV (n := 1) (As := [.int (nI t)]) (rest := []) G hml (r_refused l D cy bd ho (x) (hph) (nI t)) gX4_heartbeat_X4_refused rfl rfl rfl (by decide +kernel) ⟨Nat.le_of_ble_eq_true rfl, Nat.le_of_ble_eq_true rfl⟩ (q0 := 0) (ci := 4) (fs := hm_objL bd (x)) rfl rfl rfl rfl hl.1 (Nat.le_of_ble_eq_true rfl) ⟨Nat.zero_le _, Nat.zero_le _⟩ hP hS (fun _ h => h) rfl dX4_heartbeat_2 (fun H locs hP hS _ _ => ?_)
    refine lv_istore_n (lv' := [(2, .int (HM.codeA (x) (nI t))), (0, .ref (bd 0)), (1, .int (nI t))]) hx hb dX4_heartbeat_5 rfl hl (by decide) rfl (fun ls hl => ?_)
    refine lv_iload_n hx hb dX4_heartbeat_6 rfl (lv_at hl 0 rfl) ?_
    refine lv_if_eq (tgt := 12) hx hb dX4_heartbeat_7 (by decide) (fun c_1 => ?_) (fun c_1 => ?_)
    · refine lv_aload_n hx hb dX4_heartbeat_12 rfl (lv_at hl 1 rfl) ?_
      refine lv_aload_n hx hb dX4_heartbeat_13 rfl (lv_at hl 1 rfl) ?_
      refine hm_gf G in_X4_heartbeat_X4 hP rfl 3 (by decide) (by decide +kernel) (.ref (bd 4)) rfl rfl dX4_heartbeat_14 ?_
      refine lv_iload_n hx hb dX4_heartbeat_17 rfl (lv_at hl 2 rfl) ?_
      refine hm_lI G hP 4 (hm_gt (x)) 8 rfl (t) (nI_clamp (by omega)) (hs_inN (by omega) (by decide)) (nI (HM.gt (x) (t))) rfl dX4_heartbeat_18 ?_
      refine hs_callV (n := 1) (As := [.int (nI (HM.gt (x) (t)))]) (rest := []) G hml (r_event l D cy bd ho (x) (show HM.gt (x) (t) < 4 by first | omega | exact hi)) gX4_heartbeat_X4_event rfl rfl rfl (by decide +kernel) ⟨Nat.le_of_ble_eq_true rfl, Nat.le_of_ble_eq_true rfl⟩ (q0 := 0) (ci := 4) (fs := hm_objL bd (x)) rfl rfl rfl rfl hl.1 (Nat.le_of_ble_eq_true rfl) ⟨Nat.zero_le _, Nat.zero_le _⟩ hP hS (fun _ h => h) rfl dX4_heartbeat_19 (fun H locs hP hS _ _ => ?_)
      have hD := hm_D ho cy (HM.ev (x) (HM.gt (x) (t)))
      refine lv_aload_n hx hb dX4_heartbeat_22 rfl (lv_at hl 1 rfl) ?_
      refine hm_gf G in_X4_heartbeat_X4 hP rfl 4 (by decide) (by decide +kernel) (.ref (bd 5)) rfl rfl dX4_heartbeat_23 ?_
      refine lv_iload_n hx hb dX4_heartbeat_26 rfl (lv_at hl 2 rfl) ?_
      refine lv_aload_n hx hb dX4_heartbeat_27 rfl (lv_at hl 1 rfl) ?_
      refine hm_gf G in_X4_heartbeat_X4 hP rfl 0 (by decide) (by decide +kernel) (.ref (bd 1)) rfl rfl dX4_heartbeat_28 ?_
      refine lv_aload_n hx hb dX4_heartbeat_31 rfl (lv_at hl 1 rfl) ?_
      refine hm_gf G in_X4_heartbeat_X4 hP rfl 3 (by decide) (by decide +kernel) (.ref (bd 4)) rfl rfl dX4_heartbeat_32 ?_
      refine lv_iload_n hx hb dX4_heartbeat_35 rfl (lv_at hl 2 rfl) ?_
      refine hm_lI G hP 4 (hm_gt (HM.ev (x) (HM.gt (x) (t)))) 8 rfl (t) (nI_clamp (by omega)) (hs_inN (by omega) (by decide)) (nI (HM.gt (HM.ev (x) (HM.gt (x) (t))) (t))) rfl dX4_heartbeat_36 ?_
      refine hm_lI G hP 1 (HM.rd (HM.ev (x) (HM.gt (x) (t)))) 4 rfl (HM.gt (HM.ev (x) (HM.gt (x) (t))) (t)) (nI_clamp (by omega)) (hs_inN (by omega) (by decide)) (HM.rd (HM.ev (x) (HM.gt (x) (t))) (HM.gt (HM.ev (x) (HM.gt (x) (t))) (t))) rfl dX4_heartbeat_37 ?_
      refine hm_sI G hP hD hS 5 (HM.bt (HM.ev (x) (HM.gt (x) (t)))) 8 rfl (t) (nI_clamp (by omega)) (hs_inN (by omega) (by decide)) (hm_mem bd cy (HM.u_bt (HM.ev (x) (HM.gt (x) (t))) (t) (HM.rd (HM.ev (x) (HM.gt (x) (t))) (HM.gt (HM.ev (x) (HM.gt (x) (t))) (t))))) hm_s_bt dX4_heartbeat_38 (fun H locs hP hD hS => ?_)
      refine lv_iconst (v := 0) hx hb dX4_heartbeat_39 (by decide) ?_
      exact ct_iret hx hb hr hlocks (by rw [c_1]) (by rw [eB, if_pos (eC.symm.trans c_1)]; exact hP) hS dX4_heartbeat_40
    · refine lv_iload_n hx hb dX4_heartbeat_10 rfl (lv_at hl 0 rfl) ?_
      exact ct_iret hx hb hr hlocks rfl (by rw [eB, if_neg (fun q => c_1 (eC.trans q))]; exact hP) hS dX4_heartbeat_11
theorem in_X4_clean_X4 : ∀ w ∈ u_ws RX4 TX4 21, w ∈ wsX4_clean := by decide +kernel
set_option maxHeartbeats 4000000 in
set_option maxRecDepth 100000 in
/-- reference: r_clean -/
theorem r_clean (l : Launch) (D : va_G) (cy : Nat → ClassId) (bd : Nat → Nat) (ho : hm_ok bd) (x : HM) (B : Int) (hIn : x.In B) (hB : B + 200 < 4611686018427387904) (z : Int32) : Ct l yX4_clean wsX4_clean ({ frames := 1, cells := 0, slots := 0, locals := 27 }) D cy (hm_A bd) [.ref (bd 0), .int (z)] (hm_mem bd cy (x)) (some (.int (x.cleanA z))) (hm_mem bd cy (x.cleanM z)) := by
  rcases hs_rng z (b := 8) (by decide) with hz | ⟨t, ht, rfl⟩
  · refine ct_of (cc := cX4_clean) (maxL := 3) (ret := (some .int)) rfl (by decide) (Nat.le_of_ble_eq_true rfl) ?_
    intro p e s m below meth c ls G hx hb hml hr hlocks hP hS hl
    have hD := hm_D ho cy (x)
    have hl : lv_has ls 3 [(0, .ref (bd 0)), (1, .int (z))] := hl
    refine lv_iload_n hx hb dX4_clean_0 rfl (lv_at hl 1 rfl) ?_
    refine lv_if_lt (tgt := 10) hx hb dX4_clean_1 (by decide) (fun c_1 => ?_) (fun c_1 => ?_)
    · refine lv_iconst (v := (-1)) hx hb dX4_clean_10 (by decide) ?_
      exact ct_iret hx hb hr hlocks (by rw [HM.cleanA, hs_n_out hz]) (by rw [HM.cleanM, hs_n_out hz]; exact hP) hS dX4_clean_11
    · refine lv_iload_n hx hb dX4_clean_4 rfl (lv_at hl 1 rfl) ?_
      refine lv_bipush (v := 7) hx hb dX4_clean_5 (by decide) ?_
      refine lv_icmp_le (tgt := 12) hx hb dX4_clean_7 (by decide) (fun c_2 => ?_) (fun c_2 => ?_)
      · exact absurd c_2 (Int32.not_le.mpr (hs_gt_of hz c_1 (by decide)))
      · refine lv_iconst (v := (-1)) hx hb dX4_clean_10 (by decide) ?_
        exact ct_iret hx hb hr hlocks (by rw [HM.cleanA, hs_n_out hz]) (by rw [HM.cleanM, hs_n_out hz]; exact hP) hS dX4_clean_11
  · have eT := hs_n_in ht (show 8 < 2 ^ 31 by decide)
    have eA : x.cleanA (nI t) = if x.ph t = 0 then -4 else if x.ph t = 1 then -9 else 0 := by rw [HM.cleanA, eT]
    have eM : x.cleanM (nI t) = if x.ph t = 0 then x else if x.ph t = 1 then x else (hs_cl t 16 0 x).u_ph t 0 := by rw [HM.cleanM, eT]
    rw [eA, eM]
    refine ct_of (cc := cX4_clean) (maxL := 3) (ret := (some .int)) rfl (by decide) (Nat.le_of_ble_eq_true rfl) ?_
    intro p e s m below meth c ls G hx hb hml hr hlocks hP hS hl
    have hD := hm_D ho cy (x)
    have hl : lv_has ls 3 [(0, .ref (bd 0)), (1, .int (nI t))] := hl
    have loop : ¬ x.ph t = 0 → ¬ x.ph t = 1 → ∀ (n i : Nat), i + n = 16 → ∀ (y : HM) (C : Int), y.In C → C + n + 20 < 4611686018427387904 → hs_cl t n i y = hs_cl t 16 0 x → ∀ (H : Heap) (locs : List Loc), va_P D vwCl (hm_mem bd cy y) H → va_S (hm_A bd) s.heap H locs → ∀ ls : Array Slot, lv_has ls 3 [(2, .int (nI i)), (0, .ref (bd 0)), (1, .int (nI t))] → W p l e ({ frames := 1, cells := 0, slots := 0, locals := 27 }) s m [.ref (bd 0), .int (nI t)].toArray below meth c H locs 0 0 (MQ below (hs_Post D (some (.int (if x.ph t = 0 then -4 else if x.ph t = 1 then -9 else 0))) (hm_mem bd cy (if x.ph t = 0 then x else if x.ph t = 1 then x else (hs_cl t 16 0 x).u_ph t 0)) (hm_A bd)) [.ref (bd 0), .int (nI t)].toArray s 0 0 (hm_A bd)) (F0 m 39 ls []) := by
      intro hp0 hp1 n
      induction n with
      | zero =>
        intro i hi y C hy hC he H locs hP hS ls hl
        have hD := hm_D ho cy y
        refine lv_iload_n hx hb dX4_clean_39 rfl (lv_at hl 0 rfl) ?_
        refine lv_bipush (v := 16) hx hb dX4_clean_40 (by decide) ?_
        refine lv_icmp_ge (tgt := 86) hx hb dX4_clean_42 (by decide) (fun c_1 => ?_) (fun c_1 => ?_)
        · refine lv_aload_n hx hb dX4_clean_86 rfl (lv_at hl 1 rfl) ?_
          refine hm_gf G in_X4_clean_X4 hP rfl 2 (by decide) (by decide +kernel) (.ref (bd 3)) rfl rfl dX4_clean_87 ?_
          refine lv_iload_n hx hb dX4_clean_90 rfl (lv_at hl 2 rfl) ?_
          refine lv_iconst (v := 0) hx hb dX4_clean_91 (by decide) ?_
          refine hm_sI G hP hD hS 3 (HM.ph (y)) 8 rfl (t) (nI_clamp (by omega)) (hs_inN (by omega) (by decide)) (hm_mem bd cy (HM.u_ph (y) (t) (0))) hm_s_ph dX4_clean_92 (fun H locs hP hD hS => ?_)
          refine lv_iconst (v := 0) hx hb dX4_clean_93 (by decide) ?_
          exact ct_iret hx hb hr hlocks (by rw [if_neg hp0, if_neg hp1]) (by rw [if_neg hp0, if_neg hp1, ← he]; exact hP) hS dX4_clean_94
        · exact absurd (show (16 : Int32) ≤ nI i from nI_le (a := 16) (by omega) (by omega)) c_1
      | succ n ih =>
        intro i hi y C hy hC he H locs hP hS ls hl
        have hD := hm_D ho cy y
        have hg := hy.gt ht
        refine lv_iload_n hx hb dX4_clean_39 rfl (lv_at hl 0 rfl) ?_
        refine lv_bipush (v := 16) hx hb dX4_clean_40 (by decide) ?_
        refine lv_icmp_ge (tgt := 86) hx hb dX4_clean_42 (by decide) (fun c_1 => ?_) (fun c_1 => ?_)
        · exact absurd c_1 (nI_ge (b := 16) (by omega) (by decide))
        · have hi16 : i < 16 := by omega
          refine lv_aload_n hx hb dX4_clean_45 rfl (lv_at hl 1 rfl) ?_
          refine hm_gf G in_X4_clean_X4 hP rfl 15 (by decide) (by decide +kernel) (.ref (bd 14)) rfl rfl dX4_clean_46 ?_
          refine lv_iload_n hx hb dX4_clean_49 rfl (lv_at hl 0 rfl) ?_
          refine hm_lI G hP 14 (hm_hd (y)) 16 rfl (i) (nI_clamp (by omega)) (hs_inN (by omega) (by decide)) (hm_ho (HM.hd (y) (i))) rfl dX4_clean_50 ?_
          refine lv_iload_n hx hb dX4_clean_51 rfl (lv_at hl 2 rfl) ?_
          refine lv_iconst (v := 1) hx hb dX4_clean_52 (by decide) ?_
          refine lv_iadd hx hb dX4_clean_53 ?_
          rw [show ((nI t + 1)) = nI (t + 1) from nI_1 t]
          refine lv_icmp_ne (tgt := 80) hx hb dX4_clean_54 (by decide) (fun c_2 => ?_) (fun c_2 => ?_)
          · have hh : ¬ y.hd i = some t := fun q => c_2 ((hm_ho_eq ht (hy.hd hi16)).mpr q)
            refine lv_iinc (v := nI (i + 1)) (lv' := [(2, .int (nI (i + 1))), (0, .ref (bd 0)), (1, .int (nI t))]) hx hb dX4_clean_80 hl (k := 0) rfl (nI_1 i) (by decide) rfl (fun ls hl => ?_)
            refine lv_goto (tgt := 39) hx hb dX4_clean_83 (by decide) ?_
            have hck : y.clk t i = y := if_neg hh
            exact ih (i + 1) (by omega) (y.clk t i) (C + 1) (hy.clk (by omega) ht hi16) (by omega) (by rw [← he, hs_cl_succ]) H locs (by rw [hck]; exact hP) hS ls (lv_sub hl [0, 1, 2] rfl)
          · have hh : y.hd i = some t := (hm_ho_eq ht (hy.hd hi16)).mp c_2
            have hlen := hy.lenlt hi16 (hy.lt16 hi16 (by rw [hh]; rfl))
            refine lv_aload_n hx hb dX4_clean_57 rfl (lv_at hl 1 rfl) ?_
            refine lv_iload_n hx hb dX4_clean_58 rfl (lv_at hl 0 rfl) ?_
            refine lv_iconst (v := 3) hx hb dX4_clean_59 (by decide) ?_
            refine lv_iand hx hb dX4_clean_60 ?_
            rw [show ((nI i &&& 3)) = nI (i % 4) from hs_and3 hi16]
            refine lv_aload_n hx hb dX4_clean_61 rfl (lv_at hl 1 rfl) ?_
            refine hm_gf G in_X4_clean_X4 hP rfl 1 (by decide) (by decide +kernel) (.ref (bd 2)) rfl rfl dX4_clean_62 ?_
            refine lv_aload_n hx hb dX4_clean_65 rfl (lv_at hl 1 rfl) ?_
            refine hm_gf G in_X4_clean_X4 hP rfl 3 (by decide) (by decide +kernel) (.ref (bd 4)) rfl rfl dX4_clean_66 ?_
            refine lv_iload_n hx hb dX4_clean_69 rfl (lv_at hl 2 rfl) ?_
            refine hm_lI G hP 4 (hm_gt (y)) 8 rfl (t) (nI_clamp (by omega)) (hs_inN (by omega) (by decide)) (nI (HM.gt (y) (t))) rfl dX4_clean_70 ?_
            refine hm_lL G hP 2 (HM.ck (y)) 4 rfl (HM.gt (y) (t)) (nI_clamp (by omega)) (hs_inN (by omega) (by decide)) (HM.ck (y) (HM.gt (y) (t))) rfl dX4_clean_71 ?_
            refine hs_callV (n := 2) (As := [.int (nI (i % 4)), .long (HM.ck (y) (HM.gt (y) (t)))]) (rest := []) G hml (r_receive l D cy bd ho (y) (show i % 4 < 4 by first | omega | exact hi) (HM.ck (y) (HM.gt (y) (t)))) gX4_clean_X4_receive rfl rfl rfl (by decide +kernel) ⟨Nat.le_of_ble_eq_true rfl, Nat.le_of_ble_eq_true rfl⟩ (q0 := 0) (ci := 4) (fs := hm_objL bd (y)) rfl rfl rfl rfl hl.1 (Nat.le_of_ble_eq_true rfl) ⟨Nat.zero_le _, Nat.zero_le _⟩ hP hS (fun _ h => h) rfl dX4_clean_72 (fun H locs hP hS _ _ => ?_)
            have hD := hm_D ho cy (HM.tk (y) (i % 4) (HM.ck (y) (HM.gt (y) (t))))
            refine lv_aload_n hx hb dX4_clean_75 rfl (lv_at hl 1 rfl) ?_
            refine lv_iload_n hx hb dX4_clean_76 rfl (lv_at hl 0 rfl) ?_
            refine hs_callV (n := 1) (As := [.int (nI i)]) (rest := []) G hml (r_settle l D cy bd ho (HM.tk (y) (i % 4) (HM.ck (y) (HM.gt (y) (t)))) (hi16) (ht) (hh) (hlen)) gX4_clean_X4_settle rfl rfl rfl (by decide +kernel) ⟨Nat.le_of_ble_eq_true rfl, Nat.le_of_ble_eq_true rfl⟩ (q0 := 0) (ci := 4) (fs := hm_objL bd (HM.tk (y) (i % 4) (HM.ck (y) (HM.gt (y) (t))))) rfl rfl rfl rfl hl.1 (Nat.le_of_ble_eq_true rfl) ⟨Nat.zero_le _, Nat.zero_le _⟩ hP hS (fun _ h => h) rfl dX4_clean_77 (fun H locs hP hS _ _ => ?_)
            have hD := hm_D ho cy (HM.stl (HM.tk (y) (i % 4) (HM.ck (y) (HM.gt (y) (t)))) (i) (t))
            refine lv_iinc (v := nI (i + 1)) (lv' := [(2, .int (nI (i + 1))), (0, .ref (bd 0)), (1, .int (nI t))]) hx hb dX4_clean_80 hl (k := 0) rfl (nI_1 i) (by decide) rfl (fun ls hl => ?_)
            refine lv_goto (tgt := 39) hx hb dX4_clean_83 (by decide) ?_
            have hck : y.clk t i = ((y.tk (i % 4) (y.ck (y.gt t))).stl i t) := if_pos hh
            exact ih (i + 1) (by omega) (y.clk t i) (C + 1) (hy.clk (by omega) ht hi16) (by omega) (by rw [← he, hs_cl_succ]) H locs (by rw [hck]; exact hP) hS ls (lv_sub hl [0, 1, 2] rfl)
    refine lv_iload_n hx hb dX4_clean_0 rfl (lv_at hl 1 rfl) ?_
    refine lv_if_lt (tgt := 10) hx hb dX4_clean_1 (by decide) (fun c_1 => ?_) (fun c_1 => ?_)
    · exact absurd c_1 (nI_pos (by omega))
    · refine lv_iload_n hx hb dX4_clean_4 rfl (lv_at hl 1 rfl) ?_
      refine lv_bipush (v := 7) hx hb dX4_clean_5 (by decide) ?_
      refine lv_icmp_le (tgt := 12) hx hb dX4_clean_7 (by decide) (fun c_2 => ?_) (fun c_2 => ?_)
      · refine lv_aload_n hx hb dX4_clean_12 rfl (lv_at hl 0 rfl) ?_
        refine hm_gf G in_X4_clean_X4 hP rfl 2 (by decide) (by decide +kernel) (.ref (bd 3)) rfl rfl dX4_clean_13 ?_
        refine lv_iload_n hx hb dX4_clean_16 rfl (lv_at hl 1 rfl) ?_
        refine hm_lI G hP 3 (HM.ph (x)) 8 rfl (t) (nI_clamp (by omega)) (hs_inN (by omega) (by decide)) (HM.ph (x) (t)) rfl dX4_clean_17 ?_
        refine lv_if_ne (tgt := 24) hx hb dX4_clean_18 (by decide) (fun c_3 => ?_) (fun c_3 => ?_)
        · refine lv_aload_n hx hb dX4_clean_24 rfl (lv_at hl 0 rfl) ?_
          refine hm_gf G in_X4_clean_X4 hP rfl 2 (by decide) (by decide +kernel) (.ref (bd 3)) rfl rfl dX4_clean_25 ?_
          refine lv_iload_n hx hb dX4_clean_28 rfl (lv_at hl 1 rfl) ?_
          refine hm_lI G hP 3 (HM.ph (x)) 8 rfl (t) (nI_clamp (by omega)) (hs_inN (by omega) (by decide)) (HM.ph (x) (t)) rfl dX4_clean_29 ?_
          refine lv_iconst (v := 1) hx hb dX4_clean_30 (by decide) ?_
          refine lv_icmp_ne (tgt := 37) hx hb dX4_clean_31 (by decide) (fun c_4 => ?_) (fun c_4 => ?_)
          · refine lv_iconst (v := 0) hx hb dX4_clean_37 (by decide) ?_
            refine lv_istore_n (lv' := [(2, .int (0)), (0, .ref (bd 0)), (1, .int (nI t))]) hx hb dX4_clean_38 rfl hl (by decide) rfl (fun ls hl => ?_)
            exact loop c_3 c_4 16 0 rfl x B hIn (by omega) rfl _ _ hP hS ls (lv_sub hl [0, 1, 2] rfl)
          · refine lv_bipush (v := (-9)) hx hb dX4_clean_34 (by decide) ?_
            exact ct_iret hx hb hr hlocks (by rw [if_neg c_3, if_pos c_4]) (by rw [if_neg c_3, if_pos c_4]; exact hP) hS dX4_clean_36
        · refine lv_bipush (v := (-4)) hx hb dX4_clean_21 (by decide) ?_
          exact ct_iret hx hb hr hlocks (by rw [if_pos c_3]) (by rw [if_pos c_3]; exact hP) hS dX4_clean_23
      · exact absurd (Int32.not_lt.mp (hs_le_in ht (by decide))) c_2
theorem in_X4_begin_X4 : ∀ w ∈ u_ws RX4 TX4 21, w ∈ wsX4_begin := by decide +kernel
set_option maxHeartbeats 4000000 in
set_option maxRecDepth 100000 in
/-- reference: r_begin -/
theorem r_begin (l : Launch) (D : va_G) (cy : Nat → ClassId) (bd : Nat → Nat) (ho : hm_ok bd) (x : HM) (B : Int) (hIn : x.In B) (hB : B + 200 < 4611686018427387904) (z : Int32) : Ct l yX4_begin wsX4_begin ({ frames := 2, cells := 0, slots := 0, locals := 48 }) D cy (hm_A bd) [.ref (bd 0), .int (z)] (hm_mem bd cy (x)) (some (.int (x.beginA z))) (hm_mem bd cy (x.beginM z)) := by
  rcases hs_rng z (b := 4) (by decide) with hz | ⟨i, hi, rfl⟩
  · refine ct_of (cc := cX4_begin) (maxL := 4) (ret := (some .int)) rfl (by decide) (Nat.le_of_ble_eq_true rfl) ?_
    intro p e s m below meth c ls G hx hb hml hr hlocks hP hS hl
    have hD := hm_D ho cy (x)
    have hl : lv_has ls 4 [(0, .ref (bd 0)), (1, .int (z))] := hl
    refine lv_iload_n hx hb dX4_begin_0 rfl (lv_at hl 1 rfl) ?_
    refine lv_if_lt (tgt := 9) hx hb dX4_begin_1 (by decide) (fun c_1 => ?_) (fun c_1 => ?_)
    · refine lv_iconst (v := (-1)) hx hb dX4_begin_9 (by decide) ?_
      exact ct_iret hx hb hr hlocks (by rw [HM.beginA, hs_n_out hz]) (by rw [HM.beginM, hs_n_out hz]; exact hP) hS dX4_begin_10
    · refine lv_iload_n hx hb dX4_begin_4 rfl (lv_at hl 1 rfl) ?_
      refine lv_iconst (v := 3) hx hb dX4_begin_5 (by decide) ?_
      refine lv_icmp_le (tgt := 11) hx hb dX4_begin_6 (by decide) (fun c_2 => ?_) (fun c_2 => ?_)
      · exact absurd c_2 (Int32.not_le.mpr (hs_gt_of hz c_1 (by decide)))
      · refine lv_iconst (v := (-1)) hx hb dX4_begin_9 (by decide) ?_
        exact ct_iret hx hb hr hlocks (by rw [HM.beginA, hs_n_out hz]) (by rw [HM.beginM, hs_n_out hz]; exact hP) hS dX4_begin_10
  · have eT := hs_n_in hi (show 4 < 2 ^ 31 by decide)
    have hI1 := hIn.ev (by omega) hi
    refine ct_of (cc := cX4_begin) (maxL := 4) (ret := (some .int)) rfl (by decide) (Nat.le_of_ble_eq_true rfl) ?_
    intro p e s m below meth c ls G hx hb hml hr hlocks hP hS hl
    have hD := hm_D ho cy (x)
    have hl : lv_has ls 4 [(0, .ref (bd 0)), (1, .int (nI i))] := hl
    have J34 : ∀ (t : Nat), t < 8 → hs_fr x.ph 8 0 = some t → ∀ ls : Array Slot, lv_has ls 4 [(2, .int (nI t)), (0, .ref (bd 0)), (1, .int (nI i))] → W p l e ({ frames := 2, cells := 0, slots := 0, locals := 48 }) s m [.ref (bd 0), .int (nI i)].toArray below meth c s.heap [] 0 0 (MQ below (hs_Post D (some (.int (x.beginA (nI i)))) (hm_mem bd cy (x.beginM (nI i))) (hm_A bd)) [.ref (bd 0), .int (nI i)].toArray s 0 0 (hm_A bd)) (F0 m 34 ls []) := by
      intro t ht hft ls hl
      have eA : x.beginA (nI i) = nI t := by rw [HM.beginA, eT, hft]
      have eB : x.beginM (nI i) = x.bgn i t := by rw [HM.beginM, eT, hft]
      rw [eA, eB]
      refine lv_iload_n hx hb dX4_begin_34 rfl (lv_at hl 0 rfl) ?_
      refine lv_bipush (v := 8) hx hb dX4_begin_35 (by decide) ?_
      refine lv_icmp_ne (tgt := 43) hx hb dX4_begin_37 (by decide) (fun c_1 => ?_) (fun c_1 => ?_)
      · refine lv_aload_n hx hb dX4_begin_43 rfl (lv_at hl 1 rfl) ?_
        refine lv_iload_n hx hb dX4_begin_44 rfl (lv_at hl 2 rfl) ?_
        refine hs_callV (n := 1) (As := [.int (nI i)]) (rest := []) G hml (r_event l D cy bd ho (x) (show i < 4 by first | omega | exact hi)) gX4_begin_X4_event rfl rfl rfl (by decide +kernel) ⟨Nat.le_of_ble_eq_true rfl, Nat.le_of_ble_eq_true rfl⟩ (q0 := 0) (ci := 4) (fs := hm_objL bd (x)) rfl rfl rfl rfl hl.1 (Nat.le_of_ble_eq_true rfl) ⟨Nat.zero_le _, Nat.zero_le _⟩ hP hS (fun _ h => h) rfl dX4_begin_45 (fun H locs hP hS _ _ => ?_)
        have hD := hm_D ho cy (HM.ev (x) (i))
        refine lv_aload_n hx hb dX4_begin_48 rfl (lv_at hl 1 rfl) ?_
        refine hm_gf G in_X4_begin_X4 hP rfl 2 (by decide) (by decide +kernel) (.ref (bd 3)) rfl rfl dX4_begin_49 ?_
        refine lv_iload_n hx hb dX4_begin_52 rfl (lv_at hl 0 rfl) ?_
        refine lv_iconst (v := 1) hx hb dX4_begin_53 (by decide) ?_
        refine hm_sI G hP hD hS 3 (HM.ph (HM.ev (x) (i))) 8 rfl (t) (nI_clamp (by omega)) (hs_inN (by omega) (by decide)) (hm_mem bd cy (HM.u_ph (HM.ev (x) (i)) (t) (1))) hm_s_ph dX4_begin_54 (fun H locs hP hD hS => ?_)
        refine lv_aload_n hx hb dX4_begin_55 rfl (lv_at hl 1 rfl) ?_
        refine hm_gf G in_X4_begin_X4 hP rfl 3 (by decide) (by decide +kernel) (.ref (bd 4)) rfl rfl dX4_begin_56 ?_
        refine lv_iload_n hx hb dX4_begin_59 rfl (lv_at hl 0 rfl) ?_
        refine lv_iload_n hx hb dX4_begin_60 rfl (lv_at hl 2 rfl) ?_
        refine hm_sI G hP hD hS 4 (hm_gt (HM.u_ph (HM.ev (x) (i)) (t) (1))) 8 rfl (t) (nI_clamp (by omega)) (hs_inN (by omega) (by decide)) (hm_mem bd cy (HM.u_gt (HM.u_ph (HM.ev (x) (i)) (t) (1)) (t) (i))) hm_s_gt dX4_begin_61 (fun H locs hP hD hS => ?_)
        refine lv_aload_n hx hb dX4_begin_62 rfl (lv_at hl 1 rfl) ?_
        refine hm_gf G in_X4_begin_X4 hP rfl 4 (by decide) (by decide +kernel) (.ref (bd 5)) rfl rfl dX4_begin_63 ?_
        refine lv_iload_n hx hb dX4_begin_66 rfl (lv_at hl 0 rfl) ?_
        refine lv_aload_n hx hb dX4_begin_67 rfl (lv_at hl 1 rfl) ?_
        refine hm_gf G in_X4_begin_X4 hP rfl 0 (by decide) (by decide +kernel) (.ref (bd 1)) rfl rfl dX4_begin_68 ?_
        refine lv_iload_n hx hb dX4_begin_71 rfl (lv_at hl 2 rfl) ?_
        refine hm_lI G hP 1 (HM.rd (HM.u_gt (HM.u_ph (HM.ev (x) (i)) (t) (1)) (t) (i))) 4 rfl (i) (nI_clamp (by omega)) (hs_inN (by omega) (by decide)) (HM.rd (HM.ev (x) (i)) (i)) rfl dX4_begin_72 ?_
        refine hm_sI G hP hD hS 5 (HM.bt (HM.u_gt (HM.u_ph (HM.ev (x) (i)) (t) (1)) (t) (i))) 8 rfl (t) (nI_clamp (by omega)) (hs_inN (by omega) (by decide)) (hm_mem bd cy (HM.u_bt (HM.u_gt (HM.u_ph (HM.ev (x) (i)) (t) (1)) (t) (i)) (t) (HM.rd (HM.ev (x) (i)) (i)))) hm_s_bt dX4_begin_73 (fun H locs hP hD hS => ?_)
        refine lv_aload_n hx hb dX4_begin_74 rfl (lv_at hl 1 rfl) ?_
        refine hm_gf G in_X4_begin_X4 hP rfl 5 (by decide) (by decide +kernel) (.ref (bd 6)) rfl rfl dX4_begin_75 ?_
        refine lv_iload_n hx hb dX4_begin_78 rfl (lv_at hl 0 rfl) ?_
        refine lv_aload_n hx hb dX4_begin_79 rfl (lv_at hl 1 rfl) ?_
        refine hm_gf G in_X4_begin_X4 hP rfl 11 (by decide) (by decide +kernel) (.long (lN (HM.bs (HM.u_bt (HM.u_gt (HM.u_ph (HM.ev (x) (i)) (t) (1)) (t) (i)) (t) (HM.rd (HM.ev (x) (i)) (i)))))) rfl rfl dX4_begin_80 ?_
        rw [show (lN (HM.bs (HM.u_bt (HM.u_gt (HM.u_ph (HM.ev (x) (i)) (t) (1)) (t) (i)) (t) (HM.rd (HM.ev (x) (i)) (i))))) = lN (HM.bs x) from rfl]
        refine hm_sL G hP hD hS 6 (hm_bi (HM.u_bt (HM.u_gt (HM.u_ph (HM.ev (x) (i)) (t) (1)) (t) (i)) (t) (HM.rd (HM.ev (x) (i)) (i)))) 8 rfl (t) (nI_clamp (by omega)) (hs_inN (by omega) (by decide)) (hm_mem bd cy (HM.u_bi (HM.u_bt (HM.u_gt (HM.u_ph (HM.ev (x) (i)) (t) (1)) (t) (i)) (t) (HM.rd (HM.ev (x) (i)) (i))) (t) (HM.bs x))) hm_s_bi dX4_begin_83 (fun H locs hP hD hS => ?_)
        refine lv_aload_n hx hb dX4_begin_84 rfl (lv_at hl 1 rfl) ?_
        refine lv_aload_n hx hb dX4_begin_85 rfl (lv_at hl 1 rfl) ?_
        refine hm_gf G in_X4_begin_X4 hP rfl 11 (by decide) (by decide +kernel) (.long (lN (HM.bs (HM.u_bi (HM.u_bt (HM.u_gt (HM.u_ph (HM.ev (x) (i)) (t) (1)) (t) (i)) (t) (HM.rd (HM.ev (x) (i)) (i))) (t) (HM.bs x))))) rfl rfl dX4_begin_86 ?_
        rw [show (lN (HM.bs (HM.u_bi (HM.u_bt (HM.u_gt (HM.u_ph (HM.ev (x) (i)) (t) (1)) (t) (i)) (t) (HM.rd (HM.ev (x) (i)) (i))) (t) (HM.bs x)))) = lN (HM.bs x) from rfl]
        refine lv_lconst (v := 1) hx hb dX4_begin_89 (by decide) ?_
        refine lv_ladd hx hb dX4_begin_90 ?_
        rw [show ((lN (HM.bs x) + 1)) = lN (HM.bs x + 1) from lN_1 _]
        refine hm_pf G in_X4_begin_X4 hP hD hS rfl 11 (by decide) (by decide +kernel) (.long (lN (HM.bs x + 1))) rfl rfl (.long) (by decide +kernel) rfl rfl (Nat.le_of_ble_eq_true rfl) (hm_mem bd cy (HM.s_bs (HM.u_bi (HM.u_bt (HM.u_gt (HM.u_ph (HM.ev (x) (i)) (t) (1)) (t) (i)) (t) (HM.rd (HM.ev (x) (i)) (i))) (t) (HM.bs x)) (HM.bs x + 1))) hm_s_bs dX4_begin_91 (fun H locs hP hD hS => ?_)
        refine lv_aload_n hx hb dX4_begin_94 rfl (lv_at hl 1 rfl) ?_
        refine hm_gf G in_X4_begin_X4 hP rfl 6 (by decide) (by decide +kernel) (.ref (bd 7)) rfl rfl dX4_begin_95 ?_
        refine lv_iload_n hx hb dX4_begin_98 rfl (lv_at hl 0 rfl) ?_
        refine lv_aload_n hx hb dX4_begin_99 rfl (lv_at hl 1 rfl) ?_
        refine hm_gf G in_X4_begin_X4 hP rfl 1 (by decide) (by decide +kernel) (.ref (bd 2)) rfl rfl dX4_begin_100 ?_
        refine lv_iload_n hx hb dX4_begin_103 rfl (lv_at hl 2 rfl) ?_
        refine hm_lL G hP 2 (HM.ck (HM.s_bs (HM.u_bi (HM.u_bt (HM.u_gt (HM.u_ph (HM.ev (x) (i)) (t) (1)) (t) (i)) (t) (HM.rd (HM.ev (x) (i)) (i))) (t) (HM.bs x)) (HM.bs x + 1))) 4 rfl (i) (nI_clamp (by omega)) (hs_inN (by omega) (by decide)) (HM.ck (HM.ev (x) (i)) (i)) rfl dX4_begin_104 ?_
        refine hm_sL G hP hD hS 7 (HM.rs (HM.s_bs (HM.u_bi (HM.u_bt (HM.u_gt (HM.u_ph (HM.ev (x) (i)) (t) (1)) (t) (i)) (t) (HM.rd (HM.ev (x) (i)) (i))) (t) (HM.bs x)) (HM.bs x + 1))) 8 rfl (t) (nI_clamp (by omega)) (hs_inN (by omega) (by decide)) (hm_mem bd cy (HM.u_rs (HM.s_bs (HM.u_bi (HM.u_bt (HM.u_gt (HM.u_ph (HM.ev (x) (i)) (t) (1)) (t) (i)) (t) (HM.rd (HM.ev (x) (i)) (i))) (t) (HM.bs x)) (HM.bs x + 1)) (t) (HM.ck (HM.ev (x) (i)) (i)))) hm_s_rs dX4_begin_105 (fun H locs hP hD hS => ?_)
        refine lv_aload_n hx hb dX4_begin_106 rfl (lv_at hl 1 rfl) ?_
        refine hm_gf G in_X4_begin_X4 hP rfl 7 (by decide) (by decide +kernel) (.ref (bd 8)) rfl rfl dX4_begin_107 ?_
        refine lv_iload_n hx hb dX4_begin_110 rfl (lv_at hl 0 rfl) ?_
        refine lv_aload_n hx hb dX4_begin_111 rfl (lv_at hl 1 rfl) ?_
        refine hm_gf G in_X4_begin_X4 hP rfl 1 (by decide) (by decide +kernel) (.ref (bd 2)) rfl rfl dX4_begin_112 ?_
        refine lv_iload_n hx hb dX4_begin_115 rfl (lv_at hl 2 rfl) ?_
        refine hm_lL G hP 2 (HM.ck (HM.u_rs (HM.s_bs (HM.u_bi (HM.u_bt (HM.u_gt (HM.u_ph (HM.ev (x) (i)) (t) (1)) (t) (i)) (t) (HM.rd (HM.ev (x) (i)) (i))) (t) (HM.bs x)) (HM.bs x + 1)) (t) (HM.ck (HM.ev (x) (i)) (i)))) 4 rfl (i) (nI_clamp (by omega)) (hs_inN (by omega) (by decide)) (HM.ck (HM.ev (x) (i)) (i)) rfl dX4_begin_116 ?_
        refine hm_sL G hP hD hS 8 (HM.ws (HM.u_rs (HM.s_bs (HM.u_bi (HM.u_bt (HM.u_gt (HM.u_ph (HM.ev (x) (i)) (t) (1)) (t) (i)) (t) (HM.rd (HM.ev (x) (i)) (i))) (t) (HM.bs x)) (HM.bs x + 1)) (t) (HM.ck (HM.ev (x) (i)) (i)))) 8 rfl (t) (nI_clamp (by omega)) (hs_inN (by omega) (by decide)) (hm_mem bd cy (HM.u_ws (HM.u_rs (HM.s_bs (HM.u_bi (HM.u_bt (HM.u_gt (HM.u_ph (HM.ev (x) (i)) (t) (1)) (t) (i)) (t) (HM.rd (HM.ev (x) (i)) (i))) (t) (HM.bs x)) (HM.bs x + 1)) (t) (HM.ck (HM.ev (x) (i)) (i))) (t) (HM.ck (HM.ev (x) (i)) (i)))) hm_s_ws dX4_begin_117 (fun H locs hP hD hS => ?_)
        refine lv_aload_n hx hb dX4_begin_118 rfl (lv_at hl 1 rfl) ?_
        refine hm_gf G in_X4_begin_X4 hP rfl 8 (by decide) (by decide +kernel) (.ref (bd 9)) rfl rfl dX4_begin_119 ?_
        refine lv_iload_n hx hb dX4_begin_122 rfl (lv_at hl 0 rfl) ?_
        refine lv_aload_n hx hb dX4_begin_123 rfl (lv_at hl 1 rfl) ?_
        refine hm_gf G in_X4_begin_X4 hP rfl 1 (by decide) (by decide +kernel) (.ref (bd 2)) rfl rfl dX4_begin_124 ?_
        refine lv_iload_n hx hb dX4_begin_127 rfl (lv_at hl 2 rfl) ?_
        refine hm_lL G hP 2 (HM.ck (HM.u_ws (HM.u_rs (HM.s_bs (HM.u_bi (HM.u_bt (HM.u_gt (HM.u_ph (HM.ev (x) (i)) (t) (1)) (t) (i)) (t) (HM.rd (HM.ev (x) (i)) (i))) (t) (HM.bs x)) (HM.bs x + 1)) (t) (HM.ck (HM.ev (x) (i)) (i))) (t) (HM.ck (HM.ev (x) (i)) (i)))) 4 rfl (i) (nI_clamp (by omega)) (hs_inN (by omega) (by decide)) (HM.ck (HM.ev (x) (i)) (i)) rfl dX4_begin_128 ?_
        refine lv_bipush (v := 20) hx hb dX4_begin_129 (by decide) ?_
        refine lv_lshr (v := (HM.ck (HM.ev (x) (i)) (i) >>> (Int32.toInt64 (20) &&& 63))) hx hb dX4_begin_131 rfl ?_
        refine lv_ldc2 (v := 10) hx hb G.2.2.2.1 (G.2.2.1 (.constantLong RX4 70 10) (by decide +kernel)) dX4_begin_132 ?_
        refine lv_ladd hx hb dX4_begin_135 ?_
        refine lv_bipush (v := 20) hx hb dX4_begin_136 (by decide) ?_
        refine lv_lshl (v := (((HM.ck (HM.ev (x) (i)) (i) >>> (Int32.toInt64 (20) &&& 63)) + 10) <<< (Int32.toInt64 (20) &&& 63))) hx hb dX4_begin_138 rfl ?_
        refine lv_ldc2 (v := 1048575) hx hb G.2.2.2.1 (G.2.2.1 (.constantLong RX4 89 1048575) (by decide +kernel)) dX4_begin_139 ?_
        refine lv_ladd hx hb dX4_begin_142 ?_
        rw [show (((((HM.ck (HM.ev (x) (i)) (i) >>> (Int32.toInt64 (20) &&& 63)) + 10) <<< (Int32.toInt64 (20) &&& 63)) + 1048575)) = ((HM.ck (HM.ev (x) (i)) (i) / 1048576 + 10) * 1048576 + 1048575) from hs_lim (hI1.ck hi).1]
        refine hm_sL G hP hD hS 9 (HM.lm (HM.u_ws (HM.u_rs (HM.s_bs (HM.u_bi (HM.u_bt (HM.u_gt (HM.u_ph (HM.ev (x) (i)) (t) (1)) (t) (i)) (t) (HM.rd (HM.ev (x) (i)) (i))) (t) (HM.bs x)) (HM.bs x + 1)) (t) (HM.ck (HM.ev (x) (i)) (i))) (t) (HM.ck (HM.ev (x) (i)) (i)))) 8 rfl (t) (nI_clamp (by omega)) (hs_inN (by omega) (by decide)) (hm_mem bd cy (HM.u_lm (HM.u_ws (HM.u_rs (HM.s_bs (HM.u_bi (HM.u_bt (HM.u_gt (HM.u_ph (HM.ev (x) (i)) (t) (1)) (t) (i)) (t) (HM.rd (HM.ev (x) (i)) (i))) (t) (HM.bs x)) (HM.bs x + 1)) (t) (HM.ck (HM.ev (x) (i)) (i))) (t) (HM.ck (HM.ev (x) (i)) (i))) (t) (((HM.ck (HM.ev (x) (i)) (i) / 1048576 + 10) * 1048576 + 1048575)))) hm_s_lm dX4_begin_143 (fun H locs hP hD hS => ?_)
        refine lv_aload_n hx hb dX4_begin_144 rfl (lv_at hl 1 rfl) ?_
        refine hm_gf G in_X4_begin_X4 hP rfl 9 (by decide) (by decide +kernel) (.ref (bd 10)) rfl rfl dX4_begin_145 ?_
        refine lv_iload_n hx hb dX4_begin_148 rfl (lv_at hl 0 rfl) ?_
        refine lv_iconst (v := 0) hx hb dX4_begin_149 (by decide) ?_
        refine hm_sZ G hP hD hS 10 (HM.hu (HM.u_lm (HM.u_ws (HM.u_rs (HM.s_bs (HM.u_bi (HM.u_bt (HM.u_gt (HM.u_ph (HM.ev (x) (i)) (t) (1)) (t) (i)) (t) (HM.rd (HM.ev (x) (i)) (i))) (t) (HM.bs x)) (HM.bs x + 1)) (t) (HM.ck (HM.ev (x) (i)) (i))) (t) (HM.ck (HM.ev (x) (i)) (i))) (t) (((HM.ck (HM.ev (x) (i)) (i) / 1048576 + 10) * 1048576 + 1048575)))) 8 rfl (t) (nI_clamp (by omega)) (hs_inN (by omega) (by decide)) (by decide) (hm_mem bd cy (HM.u_hu (HM.u_lm (HM.u_ws (HM.u_rs (HM.s_bs (HM.u_bi (HM.u_bt (HM.u_gt (HM.u_ph (HM.ev (x) (i)) (t) (1)) (t) (i)) (t) (HM.rd (HM.ev (x) (i)) (i))) (t) (HM.bs x)) (HM.bs x + 1)) (t) (HM.ck (HM.ev (x) (i)) (i))) (t) (HM.ck (HM.ev (x) (i)) (i))) (t) (((HM.ck (HM.ev (x) (i)) (i) / 1048576 + 10) * 1048576 + 1048575))) (t) (0))) hm_s_hu dX4_begin_150 (fun H locs hP hD hS => ?_)
        have hfin : HM.u_se (HM.u_hu (HM.u_lm (HM.u_ws (HM.u_rs (HM.s_bs (HM.u_bi (HM.u_bt (HM.u_gt (HM.u_ph (HM.ev (x) (i)) (t) (1)) (t) (i)) (t) (HM.rd (HM.ev (x) (i)) (i))) (t) (HM.bs x)) (HM.bs x + 1)) (t) (HM.ck (HM.ev (x) (i)) (i))) (t) (HM.ck (HM.ev (x) (i)) (i))) (t) (((HM.ck (HM.ev (x) (i)) (i) / 1048576 + 10) * 1048576 + 1048575))) (t) (0)) t (fun _ => false) = x.bgn i t := hs_beg_ref (x.ev i) t i x.bs ((x.ev i).rd i) ((x.ev i).ck i) (((x.ev i).ck i / 1048576 + 10) * 1048576 + 1048575) (fun _ => false)
        generalize HM.u_hu (HM.u_lm (HM.u_ws (HM.u_rs (HM.s_bs (HM.u_bi (HM.u_bt (HM.u_gt (HM.u_ph (HM.ev (x) (i)) (t) (1)) (t) (i)) (t) (HM.rd (HM.ev (x) (i)) (i))) (t) (HM.bs x)) (HM.bs x + 1)) (t) (HM.ck (HM.ev (x) (i)) (i))) (t) (HM.ck (HM.ev (x) (i)) (i))) (t) (((HM.ck (HM.ev (x) (i)) (i) / 1048576 + 10) * 1048576 + 1048575))) (t) (0) = y at hP hD hfin
        have loop : ∀ (n j : Nat), j + n = 16 → ∀ (H : Heap) (locs : List Loc), va_P D vwCl (hm_mem bd cy (y.ss t j)) H → va_S (hm_A bd) s.heap H locs → ∀ ls : Array Slot, lv_has ls 4 [(3, .int (nI j)), (2, .int (nI t)), (0, .ref (bd 0)), (1, .int (nI i))] → W p l e ({ frames := 2, cells := 0, slots := 0, locals := 48 }) s m [.ref (bd 0), .int (nI i)].toArray below meth c H locs 0 0 (MQ below (hs_Post D (some (.int (nI t))) (hm_mem bd cy (x.bgn i t)) (hm_A bd)) [.ref (bd 0), .int (nI i)].toArray s 0 0 (hm_A bd)) (F0 m 153 ls []) := by
          intro n
          induction n with
          | zero =>
            intro j hj H locs hP hS ls hl
            have hj16 : j = 16 := by omega
            subst hj16
            rw [hm_ss16, hfin] at hP
            refine lv_iload_n hx hb dX4_begin_153 rfl (lv_at hl 0 rfl) ?_
            refine lv_bipush (v := 16) hx hb dX4_begin_154 (by decide) ?_
            refine lv_icmp_ge (tgt := 177) hx hb dX4_begin_156 (by decide) (fun c_1 => ?_) (fun c_1 => ?_)
            · refine lv_iload_n hx hb dX4_begin_177 rfl (lv_at hl 1 rfl) ?_
              exact ct_iret hx hb hr hlocks rfl hP hS dX4_begin_178
            · exact absurd (show (16 : Int32) ≤ nI 16 by decide) c_1
          | succ n ih =>
            intro j hj H locs hP hS ls hl
            have hD := hm_D ho cy (y.ss t j)
            have hj16 : j < 16 := by omega
            refine lv_iload_n hx hb dX4_begin_153 rfl (lv_at hl 0 rfl) ?_
            refine lv_bipush (v := 16) hx hb dX4_begin_154 (by decide) ?_
            refine lv_icmp_ge (tgt := 177) hx hb dX4_begin_156 (by decide) (fun c_1 => ?_) (fun c_1 => ?_)
            · exact absurd c_1 (nI_ge (b := 16) (by omega) (by decide))
            · refine lv_aload_n hx hb dX4_begin_159 rfl (lv_at hl 2 rfl) ?_
              refine hm_gf G in_X4_begin_X4 hP rfl 10 (by decide) (by decide +kernel) (.ref (bd 11)) rfl rfl dX4_begin_160 ?_
              refine lv_iload_n hx hb dX4_begin_163 rfl (lv_at hl 1 rfl) ?_
              refine lv_bipush (v := 16) hx hb dX4_begin_164 (by decide) ?_
              refine lv_imul hx hb dX4_begin_166 ?_
              refine lv_iload_n hx hb dX4_begin_167 rfl (lv_at hl 0 rfl) ?_
              refine lv_iadd hx hb dX4_begin_168 ?_
              rw [show (((nI t * 16) + nI j)) = nI (t * 16 + j) from by rw [show (16 : Int32) = nI 16 from rfl, pk_mul, nI_add]]
              refine lv_iconst (v := 0) hx hb dX4_begin_169 (by decide) ?_
              refine hm_sZ G hP hD hS 11 (hm_se (HM.ss y t j)) 128 rfl (t * 16 + j) (nI_clamp (by omega)) (hs_inN (by omega) (by decide)) (by decide) (hm_mem bd cy (HM.u_se (HM.ss y t j) t (va_up (HM.se (HM.ss y t j) t) j false))) (hm_s_seF hj16) dX4_begin_170 (fun H locs hP hD hS => ?_)
              refine lv_iinc (v := nI (j + 1)) (lv' := [(3, .int (nI (j + 1))), (2, .int (nI t)), (0, .ref (bd 0)), (1, .int (nI i))]) hx hb dX4_begin_171 hl (k := 0) rfl (nI_1 j) (by decide) rfl (fun ls hl => ?_)
              refine lv_goto (tgt := 153) hx hb dX4_begin_174 (by decide) ?_
              exact ih (j + 1) (by omega) H locs (by rw [← hs_ss_succ]; exact hP) hS ls (lv_sub hl [0, 1, 2, 3] rfl)
        refine lv_iconst (v := 0) hx hb dX4_begin_151 (by decide) ?_
        refine lv_istore_n (lv' := [(3, .int (0)), (2, .int (nI t)), (0, .ref (bd 0)), (1, .int (nI i))]) hx hb dX4_begin_152 rfl hl (by decide) rfl (fun ls hl => ?_)
        exact loop 16 0 rfl H locs (by rw [hs_ss_0]; exact hP) hS ls (lv_sub hl [0, 1, 2, 3] rfl)
      · exact absurd c_1 (fun q => by have := (nI_eq (b := 8) (by omega) (by decide)).mp q; omega)
    have loop : ∀ (n j : Nat), j + n = 8 → hs_fr x.ph n j = hs_fr x.ph 8 0 → ∀ ls : Array Slot, lv_has ls 4 [(2, .int (nI j)), (0, .ref (bd 0)), (1, .int (nI i))] → W p l e ({ frames := 2, cells := 0, slots := 0, locals := 48 }) s m [.ref (bd 0), .int (nI i)].toArray below meth c s.heap [] 0 0 (MQ below (hs_Post D (some (.int (x.beginA (nI i)))) (hm_mem bd cy (x.beginM (nI i))) (hm_A bd)) [.ref (bd 0), .int (nI i)].toArray s 0 0 (hm_A bd)) (F0 m 13 ls []) := by
      intro n
      induction n with
      | zero =>
        intro j hj he ls hl
        have hft : hs_fr x.ph 8 0 = none := he.symm
        have hj8 : j = 8 := by omega
        subst hj8
        refine lv_iload_n hx hb dX4_begin_13 rfl (lv_at hl 0 rfl) ?_
        refine lv_bipush (v := 8) hx hb dX4_begin_14 (by decide) ?_
        refine lv_icmp_ge (tgt := 34) hx hb dX4_begin_16 (by decide) (fun c_1 => ?_) (fun c_1 => ?_)
        · refine lv_iload_n hx hb dX4_begin_34 rfl (lv_at hl 0 rfl) ?_
          refine lv_bipush (v := 8) hx hb dX4_begin_35 (by decide) ?_
          refine lv_icmp_ne (tgt := 43) hx hb dX4_begin_37 (by decide) (fun c_2 => ?_) (fun c_2 => ?_)
          · exact absurd rfl c_2
          · refine lv_bipush (v := (-3)) hx hb dX4_begin_40 (by decide) ?_
            exact ct_iret hx hb hr hlocks (by rw [HM.beginA, eT, hft]) (by rw [HM.beginM, eT, hft]; exact hP) hS dX4_begin_42
        · exact absurd (show (8 : Int32) ≤ nI 8 by decide) c_1
      | succ n ih =>
        intro j hj he ls hl
        refine lv_iload_n hx hb dX4_begin_13 rfl (lv_at hl 0 rfl) ?_
        refine lv_bipush (v := 8) hx hb dX4_begin_14 (by decide) ?_
        refine lv_icmp_ge (tgt := 34) hx hb dX4_begin_16 (by decide) (fun c_1 => ?_) (fun c_1 => ?_)
        · exact absurd c_1 (nI_ge (b := 8) (by omega) (by decide))
        · have hj8 : j < 8 := by omega
          refine lv_aload_n hx hb dX4_begin_19 rfl (lv_at hl 1 rfl) ?_
          refine hm_gf G in_X4_begin_X4 hP rfl 2 (by decide) (by decide +kernel) (.ref (bd 3)) rfl rfl dX4_begin_20 ?_
          refine lv_iload_n hx hb dX4_begin_23 rfl (lv_at hl 0 rfl) ?_
          refine hm_lI G hP 3 (HM.ph (x)) 8 rfl (j) (nI_clamp (by omega)) (hs_inN (by omega) (by decide)) (HM.ph (x) (j)) rfl dX4_begin_24 ?_
          refine lv_if_eq (tgt := 34) hx hb dX4_begin_25 (by decide) (fun c_2 => ?_) (fun c_2 => ?_)
          · exact J34 j hj8 (by rw [← he, hs_fr_succ, if_pos c_2]) ls (lv_sub hl [0, 1, 2] rfl)
          · refine lv_iinc (v := nI (j + 1)) (lv' := [(2, .int (nI (j + 1))), (0, .ref (bd 0)), (1, .int (nI i))]) hx hb dX4_begin_28 hl (k := 0) rfl (nI_1 j) (by decide) rfl (fun ls hl => ?_)
            refine lv_goto (tgt := 13) hx hb dX4_begin_31 (by decide) ?_
            exact ih (j + 1) (by omega) (by rw [← he, hs_fr_succ, if_neg c_2]) ls (lv_sub hl [0, 1, 2] rfl)
    refine lv_iload_n hx hb dX4_begin_0 rfl (lv_at hl 1 rfl) ?_
    refine lv_if_lt (tgt := 9) hx hb dX4_begin_1 (by decide) (fun c_1 => ?_) (fun c_1 => ?_)
    · exact absurd c_1 (nI_pos (by omega))
    · refine lv_iload_n hx hb dX4_begin_4 rfl (lv_at hl 1 rfl) ?_
      refine lv_iconst (v := 3) hx hb dX4_begin_5 (by decide) ?_
      refine lv_icmp_le (tgt := 11) hx hb dX4_begin_6 (by decide) (fun c_2 => ?_) (fun c_2 => ?_)
      · refine lv_iconst (v := 0) hx hb dX4_begin_11 (by decide) ?_
        refine lv_istore_n (lv' := [(2, .int (0)), (0, .ref (bd 0)), (1, .int (nI i))]) hx hb dX4_begin_12 rfl hl (by decide) rfl (fun ls hl => ?_)
        exact loop 8 0 rfl rfl ls (lv_sub hl [0, 1, 2] rfl)
      · exact absurd (Int32.not_lt.mp (hs_le_in hi (by decide))) c_2

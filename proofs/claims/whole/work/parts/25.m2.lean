theorem in_X4_find_X4 : ∀ w ∈ u_ws RX4 TX4 21, w ∈ wsX4_find := by decide +kernel
set_option maxHeartbeats 4000000 in
set_option maxRecDepth 100000 in
/-- reference: r_find -/
theorem r_find (l : Launch) (D : va_G) (cy : Nat → ClassId) (bd : Nat → Nat) (ho : hm_ok bd) (x : HM) (hlen : x.vs.length ≤ 256) {k : Nat} (hk : k < 16) (a u : Int64) : Ct l yX4_find wsX4_find ({ frames := 0, cells := 0, slots := 0, locals := 0 }) D cy (hm_A bd) [.ref (bd 0), .int (nI k), .long (a), .long (u)] (hm_mem bd cy (x)) (some (.int (hs_ix (hs_fi (hm_vk x) (hm_va x) (nI k) a u x.vs.length)))) (hm_mem bd cy (x)) := by
  refine ct_of (cc := cX4_find) (maxL := 8) (ret := (some .int)) rfl (by decide) (Nat.le_of_ble_eq_true rfl) ?_
  intro p e s m below meth c ls G hx hb hml hr hlocks hP hS hl
  have hD := hm_D ho cy (x)
  have hl : lv_has ls 8 [(0, .ref (bd 0)), (1, .int (nI k)), (2, .long (a)), (4, .long (u))] := hl
  have loop : ∀ (n i : Nat), i ≤ x.vs.length → x.vs.length + 1 ≤ i + n → ∀ ls : Array Slot, lv_has ls 8 [(7, .int (nI i)), (6, .int (hs_ix (hs_fi (hm_vk x) (hm_va x) (nI k) a u (i)))), (0, .ref (bd 0)), (1, .int (nI k)), (2, .long (a)), (4, .long (u))] → W p l e ({ frames := 0, cells := 0, slots := 0, locals := 0 }) s m [.ref (bd 0), .int (nI k), .long a, .long u].toArray below meth c s.heap [] 0 0 (MQ below (hs_Post D (some (.int (hs_ix (hs_fi (hm_vk x) (hm_va x) (nI k) a u x.vs.length)))) (hm_mem bd cy (x)) (hm_A bd)) [.ref (bd 0), .int (nI k), .long a, .long u].toArray s 0 0 (hm_A bd)) (F0 m 6 ls []) := by
    intro n
    induction n with
    | zero => intro i h1 h2; exact absurd h2 (by omega)
    | succ n ih =>
      intro i hi hin ls hl
      refine lv_iload hx hb dX4_find_6 (lv_at hl 0 rfl) ?_
      refine lv_aload_n hx hb dX4_find_8 rfl (lv_at hl 2 rfl) ?_
      refine hm_gf G in_X4_find_X4 hP rfl 17 (by decide) (by decide +kernel) (.int (nI (HM.vs (x)).length)) rfl rfl dX4_find_9 ?_
      refine lv_icmp_ge (tgt := 84) hx hb dX4_find_12 (by decide) (fun c_1 => ?_) (fun c_1 => ?_)
      · have hie : i = x.vs.length := Nat.le_antisymm hi ((nI_leI (by omega) (by omega)).mp c_1)
        refine lv_iload hx hb dX4_find_84 (lv_at hl 1 rfl) ?_
        exact ct_iret hx hb hr hlocks (by rw [hie]) hP hS dX4_find_86
      · have hlt : i < x.vs.length := Nat.lt_of_not_le (fun q => c_1 (nI_le q (by omega)))
        refine lv_aload_n hx hb dX4_find_15 rfl (lv_at hl 2 rfl) ?_
        refine hm_gf G in_X4_find_X4 hP rfl 18 (by decide) (by decide +kernel) (.ref (bd 16)) rfl rfl dX4_find_16 ?_
        refine lv_iload hx hb dX4_find_19 (lv_at hl 0 rfl) ?_
        refine hm_lI G hP 16 (hm_vk (x)) 256 rfl (i) (nI_clamp (by omega)) (hs_inN (by omega) (by decide)) (hm_vk (x) (i)) rfl dX4_find_21 ?_
        refine lv_iload_n hx hb dX4_find_22 rfl (lv_at hl 3 rfl) ?_
        refine lv_icmp_ne (tgt := 78) hx hb dX4_find_23 (by decide) (fun c_2 => ?_) (fun c_2 => ?_)
        · refine lv_iinc (v := nI (i + 1)) (lv' := [(7, .int (nI (i + 1))), (6, .int (hs_ix (hs_fi (hm_vk x) (hm_va x) (nI k) a u (i)))), (0, .ref (bd 0)), (1, .int (nI k)), (2, .long (a)), (4, .long (u))]) hx hb dX4_find_78 hl (k := 0) rfl (nI_1 i) (by decide) rfl (fun ls hl => ?_)
          refine lv_goto (tgt := 6) hx hb dX4_find_81 (by decide) ?_
          have e1 : hs_fi (hm_vk x) (hm_va x) (nI k) a u (i + 1) = hs_fi (hm_vk x) (hm_va x) (nI k) a u (i) := if_neg (fun q => c_2 q.1)
          refine ih (i + 1) (by omega) (by omega) ls ?_
          rw [e1]; exact lv_sub hl [0, 1, 2, 3, 4, 5] rfl
        · refine lv_aload_n hx hb dX4_find_26 rfl (lv_at hl 2 rfl) ?_
          refine hm_gf G in_X4_find_X4 hP rfl 19 (by decide) (by decide +kernel) (.ref (bd 17)) rfl rfl dX4_find_27 ?_
          refine lv_iload hx hb dX4_find_30 (lv_at hl 0 rfl) ?_
          refine hm_lL G hP 17 (hm_va (x)) 256 rfl (i) (nI_clamp (by omega)) (hs_inN (by omega) (by decide)) (hm_va (x) (i)) rfl dX4_find_32 ?_
          refine lv_lload_n hx hb dX4_find_33 rfl (lv_at hl 4 rfl) ?_
          refine hs_lle (x := hm_va (x) (i)) (y := a) (tgt := 78) hx hb dX4_find_34 dX4_find_35 (by decide) (fun c_3 => ?_) (fun c_3 => ?_)
          · refine lv_iinc (v := nI (i + 1)) (lv' := [(7, .int (nI (i + 1))), (6, .int (hs_ix (hs_fi (hm_vk x) (hm_va x) (nI k) a u (i)))), (0, .ref (bd 0)), (1, .int (nI k)), (2, .long (a)), (4, .long (u))]) hx hb dX4_find_78 hl (k := 0) rfl (nI_1 i) (by decide) rfl (fun ls hl => ?_)
            refine lv_goto (tgt := 6) hx hb dX4_find_81 (by decide) ?_
            have e1 : hs_fi (hm_vk x) (hm_va x) (nI k) a u (i + 1) = hs_fi (hm_vk x) (hm_va x) (nI k) a u (i) := if_neg (fun q => c_3 q.2.1)
            refine ih (i + 1) (by omega) (by omega) ls ?_
            rw [e1]; exact lv_sub hl [0, 1, 2, 3, 4, 5] rfl
          · refine lv_aload_n hx hb dX4_find_38 rfl (lv_at hl 2 rfl) ?_
            refine hm_gf G in_X4_find_X4 hP rfl 19 (by decide) (by decide +kernel) (.ref (bd 17)) rfl rfl dX4_find_39 ?_
            refine lv_iload hx hb dX4_find_42 (lv_at hl 0 rfl) ?_
            refine hm_lL G hP 17 (hm_va (x)) 256 rfl (i) (nI_clamp (by omega)) (hs_inN (by omega) (by decide)) (hm_va (x) (i)) rfl dX4_find_44 ?_
            refine lv_lload hx hb dX4_find_45 (lv_at hl 5 rfl) ?_
            refine hs_lgt (x := hm_va (x) (i)) (y := u) (tgt := 78) hx hb dX4_find_47 dX4_find_48 (by decide) (fun c_4 => ?_) (fun c_4 => ?_)
            · refine lv_iinc (v := nI (i + 1)) (lv' := [(7, .int (nI (i + 1))), (6, .int (hs_ix (hs_fi (hm_vk x) (hm_va x) (nI k) a u (i)))), (0, .ref (bd 0)), (1, .int (nI k)), (2, .long (a)), (4, .long (u))]) hx hb dX4_find_78 hl (k := 0) rfl (nI_1 i) (by decide) rfl (fun ls hl => ?_)
              refine lv_goto (tgt := 6) hx hb dX4_find_81 (by decide) ?_
              have e1 : hs_fi (hm_vk x) (hm_va x) (nI k) a u (i + 1) = hs_fi (hm_vk x) (hm_va x) (nI k) a u (i) := if_neg (fun q => Int64.not_le.mpr c_4 q.2.2.1)
              refine ih (i + 1) (by omega) (by omega) ls ?_
              rw [e1]; exact lv_sub hl [0, 1, 2, 3, 4, 5] rfl
            · refine lv_iload hx hb dX4_find_51 (lv_at hl 1 rfl) ?_
              refine lv_if_lt (tgt := 74) hx hb dX4_find_53 (by decide) (fun c_5 => ?_) (fun c_5 => ?_)
              · have hp : hs_fi (hm_vk x) (hm_va x) (nI k) a u (i) = none := by
                  cases hq : hs_fi (hm_vk x) (hm_va x) (nI k) a u (i) with
                  | none => rfl
                  | some j => rw [hq] at c_5; exact absurd c_5 (nI_pos (by have := (hs_fi_lt hq).1; omega))
                refine lv_iload hx hb dX4_find_74 (lv_at hl 0 rfl) ?_
                refine lv_istore (lv' := [(6, .int (nI i)), (7, .int (nI i)), (0, .ref (bd 0)), (1, .int (nI k)), (2, .long (a)), (4, .long (u))]) hx hb dX4_find_76 hl (by decide) rfl (fun ls hl => ?_)
                refine lv_iinc (v := nI (i + 1)) (lv' := [(7, .int (nI (i + 1))), (6, .int (nI i)), (0, .ref (bd 0)), (1, .int (nI k)), (2, .long (a)), (4, .long (u))]) hx hb dX4_find_78 hl (k := 1) rfl (nI_1 i) (by decide) rfl (fun ls hl => ?_)
                refine lv_goto (tgt := 6) hx hb dX4_find_81 (by decide) ?_
                have e1 : hs_fi (hm_vk x) (hm_va x) (nI k) a u (i + 1) = some i := if_pos ⟨c_2, c_3, Int64.not_lt.mp c_4, by rw [hp]; exact c_3⟩
                refine ih (i + 1) (by omega) (by omega) ls ?_
                rw [e1]; exact lv_sub hl [0, 1, 2, 3, 4, 5] rfl
              · obtain ⟨j, hp⟩ : ∃ j, hs_fi (hm_vk x) (hm_va x) (nI k) a u (i) = some j := by
                  cases hq : hs_fi (hm_vk x) (hm_va x) (nI k) a u (i) with
                  | none => rw [hq] at c_5; exact absurd (by decide) c_5
                  | some j => exact ⟨j, rfl⟩
                have hjl := (hs_fi_lt hp).1
                have hjx : hs_ix (hs_fi (hm_vk x) (hm_va x) (nI k) a u (i)) = nI j := by rw [hp]; rfl
                refine lv_aload_n hx hb dX4_find_56 rfl (lv_at hl 2 rfl) ?_
                refine hm_gf G in_X4_find_X4 hP rfl 19 (by decide) (by decide +kernel) (.ref (bd 17)) rfl rfl dX4_find_57 ?_
                refine lv_iload hx hb dX4_find_60 (lv_at hl 0 rfl) ?_
                refine hm_lL G hP 17 (hm_va (x)) 256 rfl (i) (nI_clamp (by omega)) (hs_inN (by omega) (by decide)) (hm_va (x) (i)) rfl dX4_find_62 ?_
                refine lv_aload_n hx hb dX4_find_63 rfl (lv_at hl 2 rfl) ?_
                refine hm_gf G in_X4_find_X4 hP rfl 19 (by decide) (by decide +kernel) (.ref (bd 17)) rfl rfl dX4_find_64 ?_
                refine lv_iload hx hb dX4_find_67 (lv_at hl 1 rfl) ?_
                refine hm_lL G hP 17 (hm_va (x)) 256 rfl (j) (by rw [hjx]; exact nI_clamp (by omega)) (by rw [hjx]; exact hs_inN (by omega) (by decide)) (hm_va (x) (j)) rfl dX4_find_69 ?_
                refine hs_lle (x := hm_va (x) (i)) (y := hm_va (x) (j)) (tgt := 78) hx hb dX4_find_70 dX4_find_71 (by decide) (fun c_6 => ?_) (fun c_6 => ?_)
                · refine lv_iinc (v := nI (i + 1)) (lv' := [(7, .int (nI (i + 1))), (6, .int (hs_ix (hs_fi (hm_vk x) (hm_va x) (nI k) a u (i)))), (0, .ref (bd 0)), (1, .int (nI k)), (2, .long (a)), (4, .long (u))]) hx hb dX4_find_78 hl (k := 0) rfl (nI_1 i) (by decide) rfl (fun ls hl => ?_)
                  refine lv_goto (tgt := 6) hx hb dX4_find_81 (by decide) ?_
                  have e1 : hs_fi (hm_vk x) (hm_va x) (nI k) a u (i + 1) = hs_fi (hm_vk x) (hm_va x) (nI k) a u (i) := if_neg (fun q => c_6 (by have z := q.2.2.2; rw [hp] at z; exact z))
                  refine ih (i + 1) (by omega) (by omega) ls ?_
                  rw [e1]; exact lv_sub hl [0, 1, 2, 3, 4, 5] rfl
                · refine lv_iload hx hb dX4_find_74 (lv_at hl 0 rfl) ?_
                  refine lv_istore (lv' := [(6, .int (nI i)), (7, .int (nI i)), (0, .ref (bd 0)), (1, .int (nI k)), (2, .long (a)), (4, .long (u))]) hx hb dX4_find_76 hl (by decide) rfl (fun ls hl => ?_)
                  refine lv_iinc (v := nI (i + 1)) (lv' := [(7, .int (nI (i + 1))), (6, .int (nI i)), (0, .ref (bd 0)), (1, .int (nI k)), (2, .long (a)), (4, .long (u))]) hx hb dX4_find_78 hl (k := 1) rfl (nI_1 i) (by decide) rfl (fun ls hl => ?_)
                  refine lv_goto (tgt := 6) hx hb dX4_find_81 (by decide) ?_
                  have e1 : hs_fi (hm_vk x) (hm_va x) (nI k) a u (i + 1) = some i := if_pos ⟨c_2, c_3, Int64.not_lt.mp c_4, by rw [hp]; exact c_6⟩
                  refine ih (i + 1) (by omega) (by omega) ls ?_
                  rw [e1]; exact lv_sub hl [0, 1, 2, 3, 4, 5] rfl
  refine lv_iconst (v := (-1)) hx hb dX4_find_0 (by decide) ?_
  refine lv_istore (lv' := [(6, .int ((-1))), (0, .ref (bd 0)), (1, .int (nI k)), (2, .long (a)), (4, .long (u))]) hx hb dX4_find_1 hl (by decide) rfl (fun ls hl => ?_)
  refine lv_iconst (v := 0) hx hb dX4_find_3 (by decide) ?_
  refine lv_istore (lv' := [(7, .int (0)), (6, .int ((-1))), (0, .ref (bd 0)), (1, .int (nI k)), (2, .long (a)), (4, .long (u))]) hx hb dX4_find_4 hl (by decide) rfl (fun ls hl => ?_)
  exact loop (x.vs.length + 1) 0 (Nat.zero_le _) (by omega) ls (lv_sub hl [0, 1, 2, 3, 4, 5] rfl)
theorem in_X4_versions_X4 : ∀ w ∈ u_ws RX4 TX4 21, w ∈ wsX4_versions := by decide +kernel
set_option maxHeartbeats 4000000 in
set_option maxRecDepth 100000 in
/-- reference: r_versions -/
theorem r_versions (l : Launch) (D : va_G) (cy : Nat → ClassId) (bd : Nat → Nat) (ho : hm_ok bd) (x : HM) (B : Int) (hIn : x.In B) (z : Int32) : Ct l yX4_versions wsX4_versions ({ frames := 0, cells := 0, slots := 0, locals := 0 }) D cy (hm_A bd) [.ref (bd 0), .int (z)] (hm_mem bd cy (x)) (some (.int (x.versionsA z))) (hm_mem bd cy (x)) := by
  rcases hs_rng z (b := 16) (by decide) with hz | ⟨k, hk, rfl⟩
  · refine ct_of (cc := cX4_versions) (maxL := 4) (ret := (some .int)) rfl (by decide) (Nat.le_of_ble_eq_true rfl) ?_
    intro p e s m below meth c ls G hx hb hml hr hlocks hP hS hl
    have hD := hm_D ho cy (x)
    have hl : lv_has ls 4 [(0, .ref (bd 0)), (1, .int (z))] := hl
    refine lv_iload_n hx hb dX4_versions_0 rfl (lv_at hl 1 rfl) ?_
    refine lv_if_lt (tgt := 10) hx hb dX4_versions_1 (by decide) (fun c_1 => ?_) (fun c_1 => ?_)
    · refine lv_iconst (v := (-1)) hx hb dX4_versions_10 (by decide) ?_
      exact ct_iret hx hb hr hlocks (by rw [HM.versionsA, hs_n_out hz]) hP hS dX4_versions_11
    · refine lv_iload_n hx hb dX4_versions_4 rfl (lv_at hl 1 rfl) ?_
      refine lv_bipush (v := 15) hx hb dX4_versions_5 (by decide) ?_
      refine lv_icmp_le (tgt := 12) hx hb dX4_versions_7 (by decide) (fun c_2 => ?_) (fun c_2 => ?_)
      · exact absurd c_2 (Int32.not_le.mpr (hs_gt_of hz c_1 (by decide)))
      · refine lv_iconst (v := (-1)) hx hb dX4_versions_10 (by decide) ?_
        exact ct_iret hx hb hr hlocks (by rw [HM.versionsA, hs_n_out hz]) hP hS dX4_versions_11
  · have eM := hs_n_in hk (show 16 < 2 ^ 31 by decide)
    have hlen := hIn.len
    refine ct_of (cc := cX4_versions) (maxL := 4) (ret := (some .int)) rfl (by decide) (Nat.le_of_ble_eq_true rfl) ?_
    intro p e s m below meth c ls G hx hb hml hr hlocks hP hS hl
    have hD := hm_D ho cy (x)
    have hl : lv_has ls 4 [(0, .ref (bd 0)), (1, .int (nI k))] := hl
    have loop : ∀ (n i : Nat), i ≤ x.vs.length → x.vs.length + 1 ≤ i + n → ∀ ls : Array Slot, lv_has ls 4 [(3, .int (nI i)), (2, .int (nI (hs_cn (hm_vk x) (nI k) (i)))), (0, .ref (bd 0)), (1, .int (nI k))] → W p l e ({ frames := 0, cells := 0, slots := 0, locals := 0 }) s m [.ref (bd 0), .int (nI k)].toArray below meth c s.heap [] 0 0 (MQ below (hs_Post D (some (.int (x.versionsA (nI k)))) (hm_mem bd cy (x)) (hm_A bd)) [.ref (bd 0), .int (nI k)].toArray s 0 0 (hm_A bd)) (F0 m 16 ls []) := by
      intro n
      induction n with
      | zero => intro i h1 h2; exact absurd h2 (by omega)
      | succ n ih =>
        intro i hi hin ls hl
        refine lv_iload_n hx hb dX4_versions_16 rfl (lv_at hl 0 rfl) ?_
        refine lv_aload_n hx hb dX4_versions_17 rfl (lv_at hl 2 rfl) ?_
        refine hm_gf G in_X4_versions_X4 hP rfl 17 (by decide) (by decide +kernel) (.int (nI (HM.vs (x)).length)) rfl rfl dX4_versions_18 ?_
        refine lv_icmp_ge (tgt := 44) hx hb dX4_versions_21 (by decide) (fun c_1 => ?_) (fun c_1 => ?_)
        · have hie : i = x.vs.length := Nat.le_antisymm hi ((nI_leI (by omega) (by omega)).mp c_1)
          refine lv_iload_n hx hb dX4_versions_44 rfl (lv_at hl 1 rfl) ?_
          exact ct_iret hx hb hr hlocks (by rw [HM.versionsA, eM, hie, hIn.cnt hk]) hP hS dX4_versions_45
        · have hlt : i < x.vs.length := Nat.lt_of_not_le (fun q => c_1 (nI_le q (by omega)))
          refine lv_aload_n hx hb dX4_versions_24 rfl (lv_at hl 2 rfl) ?_
          refine hm_gf G in_X4_versions_X4 hP rfl 18 (by decide) (by decide +kernel) (.ref (bd 16)) rfl rfl dX4_versions_25 ?_
          refine lv_iload_n hx hb dX4_versions_28 rfl (lv_at hl 0 rfl) ?_
          refine hm_lI G hP 16 (hm_vk (x)) 256 rfl (i) (nI_clamp (by omega)) (hs_inN (by omega) (by decide)) (hm_vk (x) (i)) rfl dX4_versions_29 ?_
          refine lv_iload_n hx hb dX4_versions_30 rfl (lv_at hl 3 rfl) ?_
          refine lv_icmp_ne (tgt := 38) hx hb dX4_versions_31 (by decide) (fun c_2 => ?_) (fun c_2 => ?_)
          · refine lv_iinc (v := nI (i + 1)) (lv' := [(3, .int (nI (i + 1))), (2, .int (nI (hs_cn (hm_vk x) (nI k) (i)))), (0, .ref (bd 0)), (1, .int (nI k))]) hx hb dX4_versions_38 hl (k := 0) rfl (nI_1 i) (by decide) rfl (fun ls hl => ?_)
            refine lv_goto (tgt := 16) hx hb dX4_versions_41 (by decide) ?_
            have e1 : hs_cn (hm_vk x) (nI k) (i + 1) = hs_cn (hm_vk x) (nI k) (i) := if_neg c_2
            refine ih (i + 1) (by omega) (by omega) ls ?_
            rw [e1]; exact lv_sub hl [0, 1, 2, 3] rfl
          · refine lv_iload_n hx hb dX4_versions_34 rfl (lv_at hl 1 rfl) ?_
            refine lv_iconst (v := 1) hx hb dX4_versions_35 (by decide) ?_
            refine lv_iadd hx hb dX4_versions_36 ?_
            rw [show ((nI (hs_cn (hm_vk x) (nI k) (i)) + 1)) = nI (hs_cn (hm_vk x) (nI k) (i) + 1) from nI_1 _]
            refine lv_istore_n (lv' := [(2, .int (nI (hs_cn (hm_vk x) (nI k) (i) + 1))), (3, .int (nI i)), (0, .ref (bd 0)), (1, .int (nI k))]) hx hb dX4_versions_37 rfl hl (by decide) rfl (fun ls hl => ?_)
            refine lv_iinc (v := nI (i + 1)) (lv' := [(3, .int (nI (i + 1))), (2, .int (nI (hs_cn (hm_vk x) (nI k) (i) + 1))), (0, .ref (bd 0)), (1, .int (nI k))]) hx hb dX4_versions_38 hl (k := 1) rfl (nI_1 i) (by decide) rfl (fun ls hl => ?_)
            refine lv_goto (tgt := 16) hx hb dX4_versions_41 (by decide) ?_
            have e1 : hs_cn (hm_vk x) (nI k) (i + 1) = hs_cn (hm_vk x) (nI k) (i) + 1 := if_pos c_2
            refine ih (i + 1) (by omega) (by omega) ls ?_
            rw [e1]; exact lv_sub hl [0, 1, 2, 3] rfl
    refine lv_iload_n hx hb dX4_versions_0 rfl (lv_at hl 1 rfl) ?_
    refine lv_if_lt (tgt := 10) hx hb dX4_versions_1 (by decide) (fun c_1 => ?_) (fun c_1 => ?_)
    · exact absurd c_1 (nI_pos (by omega))
    · refine lv_iload_n hx hb dX4_versions_4 rfl (lv_at hl 1 rfl) ?_
      refine lv_bipush (v := 15) hx hb dX4_versions_5 (by decide) ?_
      refine lv_icmp_le (tgt := 12) hx hb dX4_versions_7 (by decide) (fun c_2 => ?_) (fun c_2 => ?_)
      · refine lv_iconst (v := 0) hx hb dX4_versions_12 (by decide) ?_
        refine lv_istore_n (lv' := [(2, .int (0)), (0, .ref (bd 0)), (1, .int (nI k))]) hx hb dX4_versions_13 rfl hl (by decide) rfl (fun ls hl => ?_)
        refine lv_iconst (v := 0) hx hb dX4_versions_14 (by decide) ?_
        refine lv_istore_n (lv' := [(3, .int (0)), (2, .int (0)), (0, .ref (bd 0)), (1, .int (nI k))]) hx hb dX4_versions_15 rfl hl (by decide) rfl (fun ls hl => ?_)
        exact loop (x.vs.length + 1) 0 (Nat.zero_le _) (by omega) ls (lv_sub hl [0, 1, 2, 3] rfl)
      · exact absurd (Int32.not_lt.mp (hs_le_in hk (by decide))) c_2
theorem in_X4_settle_X4 : ∀ w ∈ u_ws RX4 TX4 21, w ∈ wsX4_settle := by decide +kernel
set_option maxHeartbeats 4000000 in
set_option maxRecDepth 100000 in
/-- reference: r_settle -/
theorem r_settle (l : Launch) (D : va_G) (cy : Nat → ClassId) (bd : Nat → Nat) (ho : hm_ok bd) (x : HM) {k : Nat} (hk : k < 16) {u : Nat} (hu : u < 8) (hh : x.hd k = some u) (hlen : x.vs.length < 256) : Ct l yX4_settle wsX4_settle ({ frames := 0, cells := 0, slots := 0, locals := 0 }) D cy (hm_A bd) [.ref (bd 0), .int (nI k)] (hm_mem bd cy (x)) none (hm_mem bd cy (x.stl k u)) := by
  refine ct_of (cc := cX4_settle) (maxL := 3) (ret := none) rfl (by decide) (Nat.le_of_ble_eq_true rfl) ?_
  intro p e s m below meth c ls G hx hb hml hr hlocks hP hS hl
  have hD := hm_D ho cy (x)
  have hl : lv_has ls 3 [(0, .ref (bd 0)), (1, .int (nI k))] := hl
  refine lv_aload_n hx hb dX4_settle_0 rfl (lv_at hl 0 rfl) ?_
  refine hm_gf G in_X4_settle_X4 hP rfl 15 (by decide) (by decide +kernel) (.ref (bd 14)) rfl rfl dX4_settle_1 ?_
  refine lv_iload_n hx hb dX4_settle_4 rfl (lv_at hl 1 rfl) ?_
  refine hm_lI G hP 14 (hm_hd (x)) 16 rfl (k) (nI_clamp (by omega)) (hs_inN (by omega) (by decide)) (nI (u + 1)) (by show hm_ho (HM.hd (x) (k)) = _; rw [hh]; rfl) dX4_settle_5 ?_
  refine lv_iconst (v := 1) hx hb dX4_settle_6 (by decide) ?_
  refine lv_isub hx hb dX4_settle_7 ?_
  rw [show ((nI (u + 1) - 1)) = nI u from nI_pred u]
  refine lv_istore_n (lv' := [(2, .int (nI u)), (0, .ref (bd 0)), (1, .int (nI k))]) hx hb dX4_settle_8 rfl hl (by decide) rfl (fun ls hl => ?_)
  refine lv_aload_n hx hb dX4_settle_9 rfl (lv_at hl 1 rfl) ?_
  refine hm_gf G in_X4_settle_X4 hP rfl 2 (by decide) (by decide +kernel) (.ref (bd 3)) rfl rfl dX4_settle_10 ?_
  refine lv_iload_n hx hb dX4_settle_13 rfl (lv_at hl 0 rfl) ?_
  refine hm_lI G hP 3 (HM.ph (x)) 8 rfl (u) (nI_clamp (by omega)) (hs_inN (by omega) (by decide)) (HM.ph (x) (u)) rfl dX4_settle_14 ?_
  refine lv_iconst (v := 2) hx hb dX4_settle_15 (by decide) ?_
  refine lv_icmp_ne (tgt := 69) hx hb dX4_settle_16 (by decide) (fun c_1 => ?_) (fun c_1 => ?_)
  · refine lv_aload_n hx hb dX4_settle_69 rfl (lv_at hl 1 rfl) ?_
    refine hm_gf G in_X4_settle_X4 hP rfl 15 (by decide) (by decide +kernel) (.ref (bd 14)) rfl rfl dX4_settle_70 ?_
    refine lv_iload_n hx hb dX4_settle_73 rfl (lv_at hl 2 rfl) ?_
    refine lv_iconst (v := 0) hx hb dX4_settle_74 (by decide) ?_
    refine hm_sI G hP hD hS 14 (hm_hd (x)) 16 rfl (k) (nI_clamp (by omega)) (hs_inN (by omega) (by decide)) (hm_mem bd cy (HM.u_hd (x) (k) none)) hm_s_hdN dX4_settle_75 (fun H locs hP hD hS => ?_)
    exact ct_vret hx hb hr hlocks rfl (by rw [HM.stl, if_neg c_1]; exact hP) hS dX4_settle_76
  · refine lv_aload_n hx hb dX4_settle_19 rfl (lv_at hl 1 rfl) ?_
    refine hm_gf G in_X4_settle_X4 hP rfl 18 (by decide) (by decide +kernel) (.ref (bd 16)) rfl rfl dX4_settle_20 ?_
    refine lv_aload_n hx hb dX4_settle_23 rfl (lv_at hl 1 rfl) ?_
    refine hm_gf G in_X4_settle_X4 hP rfl 17 (by decide) (by decide +kernel) (.int (nI (HM.vs (x)).length)) rfl rfl dX4_settle_24 ?_
    refine lv_iload_n hx hb dX4_settle_27 rfl (lv_at hl 2 rfl) ?_
    refine hm_sI G hP hD hS 16 (hm_vk (x)) 256 rfl ((HM.vs (x)).length) (nI_clamp (by omega)) (hs_inN (by omega) (by decide)) _ rfl dX4_settle_28 (fun H locs hP hD hS => ?_)
    refine lv_aload_n hx hb dX4_settle_29 rfl (lv_at hl 1 rfl) ?_
    refine hm_gf G in_X4_settle_X4 hP rfl 19 (by decide) (by decide +kernel) (.ref (bd 17)) rfl rfl dX4_settle_30 ?_
    refine lv_aload_n hx hb dX4_settle_33 rfl (lv_at hl 1 rfl) ?_
    refine hm_gf G in_X4_settle_X4 hP rfl 17 (by decide) (by decide +kernel) (.int (nI (HM.vs (x)).length)) rfl rfl dX4_settle_34 ?_
    refine lv_aload_n hx hb dX4_settle_37 rfl (lv_at hl 1 rfl) ?_
    refine hm_gf G in_X4_settle_X4 hP rfl 7 (by decide) (by decide +kernel) (.ref (bd 8)) rfl rfl dX4_settle_38 ?_
    refine lv_iload_n hx hb dX4_settle_41 rfl (lv_at hl 0 rfl) ?_
    refine hm_lL G hP 8 (HM.ws (x)) 8 rfl (u) (nI_clamp (by omega)) (hs_inN (by omega) (by decide)) (HM.ws (x) (u)) rfl dX4_settle_42 ?_
    refine hm_sL G hP hD hS 17 (hm_va (x)) 256 rfl ((HM.vs (x)).length) (nI_clamp (by omega)) (hs_inN (by omega) (by decide)) _ rfl dX4_settle_43 (fun H locs hP hD hS => ?_)
    refine lv_aload_n hx hb dX4_settle_44 rfl (lv_at hl 1 rfl) ?_
    refine hm_gf G in_X4_settle_X4 hP rfl 20 (by decide) (by decide +kernel) (.ref (bd 18)) rfl rfl dX4_settle_45 ?_
    refine lv_aload_n hx hb dX4_settle_48 rfl (lv_at hl 1 rfl) ?_
    refine hm_gf G in_X4_settle_X4 hP rfl 17 (by decide) (by decide +kernel) (.int (nI (HM.vs (x)).length)) rfl rfl dX4_settle_49 ?_
    refine lv_aload_n hx hb dX4_settle_52 rfl (lv_at hl 1 rfl) ?_
    refine hm_gf G in_X4_settle_X4 hP rfl 16 (by decide) (by decide +kernel) (.ref (bd 15)) rfl rfl dX4_settle_53 ?_
    refine lv_iload_n hx hb dX4_settle_56 rfl (lv_at hl 2 rfl) ?_
    refine hm_lI G hP 15 (HM.pl (x)) 16 rfl (k) (nI_clamp (by omega)) (hs_inN (by omega) (by decide)) (HM.pl (x) (k)) rfl dX4_settle_57 ?_
    refine hm_sI G hP hD hS 18 (hm_vv (x)) 256 rfl ((HM.vs (x)).length) (nI_clamp (by omega)) (hs_inN (by omega) (by decide)) _ rfl dX4_settle_58 (fun H locs hP hD hS => ?_)
    refine lv_aload_n hx hb dX4_settle_59 rfl (lv_at hl 1 rfl) ?_
    refine lv_aload_n hx hb dX4_settle_60 rfl (lv_at hl 1 rfl) ?_
    refine hm_gf G in_X4_settle_X4 hP rfl 17 (by decide) (by decide +kernel) (.int (nI (HM.vs (x)).length)) rfl rfl dX4_settle_61 ?_
    refine lv_iconst (v := 1) hx hb dX4_settle_64 (by decide) ?_
    refine lv_iadd hx hb dX4_settle_65 ?_
    rw [show ((nI (HM.vs (x)).length + 1)) = nI ((HM.vs x).length + 1) from nI_1 _]
    refine hm_pf G in_X4_settle_X4 hP hD hS rfl 17 (by decide) (by decide +kernel) (.int (nI ((HM.vs x).length + 1))) rfl rfl (.int) (by decide +kernel) rfl rfl (Nat.le_of_ble_eq_true rfl) _ rfl dX4_settle_66 (fun H locs hP hD hS => ?_)
    have hP : va_P D vwCl (hm_mem bd cy (x.add k (x.ws u) (x.pl k))) H := by rw [← hm_addV k (x.ws u) (x.pl k)]; exact hP
    have hD := hm_D ho cy (x.add k (x.ws u) (x.pl k))
    refine lv_aload_n hx hb dX4_settle_69 rfl (lv_at hl 1 rfl) ?_
    refine hm_gf G in_X4_settle_X4 hP rfl 15 (by decide) (by decide +kernel) (.ref (bd 14)) rfl rfl dX4_settle_70 ?_
    refine lv_iload_n hx hb dX4_settle_73 rfl (lv_at hl 2 rfl) ?_
    refine lv_iconst (v := 0) hx hb dX4_settle_74 (by decide) ?_
    refine hm_sI G hP hD hS 14 (hm_hd (HM.add x k (HM.ws x u) (HM.pl x k))) 16 rfl (k) (nI_clamp (by omega)) (hs_inN (by omega) (by decide)) (hm_mem bd cy (HM.u_hd (HM.add x k (HM.ws x u) (HM.pl x k)) (k) none)) hm_s_hdN dX4_settle_75 (fun H locs hP hD hS => ?_)
    exact ct_vret hx hb hr hlocks rfl (by rw [HM.stl, if_pos c_1]; exact hP) hS dX4_settle_76
theorem in_X4_meet_X4 : ∀ w ∈ u_ws RX4 TX4 21, w ∈ wsX4_meet := by decide +kernel
set_option maxHeartbeats 4000000 in
set_option maxRecDepth 100000 in
/-- reference: r_meet -/
theorem r_meet (l : Launch) (D : va_G) (cy : Nat → ClassId) (bd : Nat → Nat) (ho : hm_ok bd) (x : HM) (B : Int) (hIn : x.In B) {k : Nat} (hk : k < 16) {t : Nat} (hne : ¬ x.hd k = some t) : Ct l yX4_meet wsX4_meet ({ frames := 1, cells := 0, slots := 0, locals := 27 }) D cy (hm_A bd) [.ref (bd 0), .int (nI k)] (hm_mem bd cy (x)) (some (.int (hs_ix (x.lkU t k)))) (hm_mem bd cy (x.look t k)) := by
  cases hh : x.hd k with
  | none =>
    refine ct_of (cc := cX4_meet) (maxL := 5) (ret := (some .int)) rfl (by decide) (Nat.le_of_ble_eq_true rfl) ?_
    intro p e s m below meth c ls G hx hb hml hr hlocks hP hS hl
    have hD := hm_D ho cy (x)
    have hl : lv_has ls 5 [(0, .ref (bd 0)), (1, .int (nI k))] := hl
    refine lv_aload_n hx hb dX4_meet_0 rfl (lv_at hl 0 rfl) ?_
    refine hm_gf G in_X4_meet_X4 hP rfl 15 (by decide) (by decide +kernel) (.ref (bd 14)) rfl rfl dX4_meet_1 ?_
    refine lv_iload_n hx hb dX4_meet_4 rfl (lv_at hl 1 rfl) ?_
    refine hm_lI G hP 14 (hm_hd (x)) 16 rfl (k) (nI_clamp (by omega)) (hs_inN (by omega) (by decide)) (0) (by show hm_ho (HM.hd (x) (k)) = _; rw [hh]; rfl) dX4_meet_5 ?_
    refine lv_iconst (v := 1) hx hb dX4_meet_6 (by decide) ?_
    refine lv_isub hx hb dX4_meet_7 ?_
    rw [show ((0 : Int32) - 1) = (-1) from (by decide)]
    refine lv_istore_n (lv' := [(2, .int ((-1))), (0, .ref (bd 0)), (1, .int (nI k))]) hx hb dX4_meet_8 rfl hl (by decide) rfl (fun ls hl => ?_)
    refine lv_iload_n hx hb dX4_meet_9 rfl (lv_at hl 0 rfl) ?_
    refine lv_if_ge (tgt := 15) hx hb dX4_meet_10 (by decide) (fun c_1 => ?_) (fun c_1 => ?_)
    · exact absurd c_1 (by decide)
    · refine lv_iconst (v := (-1)) hx hb dX4_meet_13 (by decide) ?_
      exact ct_iret hx hb hr hlocks (by rw [HM.lkU, hh]; rfl) (by rw [HM.look, hh]; exact hP) hS dX4_meet_14
  | some u =>
    have hu := hIn.hd hk u hh
    have hut : ¬ u = t := fun q => hne (by rw [hh, q])
    have hg := hIn.gt hu
    have hl16 := hIn.lt16 hk (by rw [hh]; rfl)
    have hlen := hIn.lenlt hk hl16
    refine ct_of (cc := cX4_meet) (maxL := 5) (ret := (some .int)) rfl (by decide) (Nat.le_of_ble_eq_true rfl) ?_
    intro p e s m below meth c ls G hx hb hml hr hlocks hP hS hl
    have hD := hm_D ho cy (x)
    have hl : lv_has ls 5 [(0, .ref (bd 0)), (1, .int (nI k))] := hl
    refine lv_aload_n hx hb dX4_meet_0 rfl (lv_at hl 0 rfl) ?_
    refine hm_gf G in_X4_meet_X4 hP rfl 15 (by decide) (by decide +kernel) (.ref (bd 14)) rfl rfl dX4_meet_1 ?_
    refine lv_iload_n hx hb dX4_meet_4 rfl (lv_at hl 1 rfl) ?_
    refine hm_lI G hP 14 (hm_hd (x)) 16 rfl (k) (nI_clamp (by omega)) (hs_inN (by omega) (by decide)) (nI (u + 1)) (by show hm_ho (HM.hd (x) (k)) = _; rw [hh]; rfl) dX4_meet_5 ?_
    refine lv_iconst (v := 1) hx hb dX4_meet_6 (by decide) ?_
    refine lv_isub hx hb dX4_meet_7 ?_
    rw [show ((nI (u + 1) - 1)) = nI u from nI_pred u]
    refine lv_istore_n (lv' := [(2, .int (nI u)), (0, .ref (bd 0)), (1, .int (nI k))]) hx hb dX4_meet_8 rfl hl (by decide) rfl (fun ls hl => ?_)
    refine lv_iload_n hx hb dX4_meet_9 rfl (lv_at hl 0 rfl) ?_
    refine lv_if_ge (tgt := 15) hx hb dX4_meet_10 (by decide) (fun c_1 => ?_) (fun c_1 => ?_)
    · refine lv_iload_n hx hb dX4_meet_15 rfl (lv_at hl 2 rfl) ?_
      refine lv_iconst (v := 3) hx hb dX4_meet_16 (by decide) ?_
      refine lv_iand hx hb dX4_meet_17 ?_
      rw [show ((nI k &&& 3)) = nI (k % 4) from hs_and3 hk]
      refine lv_istore_n (lv' := [(3, .int (nI (k % 4))), (2, .int (nI u)), (0, .ref (bd 0)), (1, .int (nI k))]) hx hb dX4_meet_18 rfl hl (by decide) rfl (fun ls hl => ?_)
      refine lv_aload_n hx hb dX4_meet_19 rfl (lv_at hl 2 rfl) ?_
      refine hm_gf G in_X4_meet_X4 hP rfl 3 (by decide) (by decide +kernel) (.ref (bd 4)) rfl rfl dX4_meet_20 ?_
      refine lv_iload_n hx hb dX4_meet_23 rfl (lv_at hl 1 rfl) ?_
      refine hm_lI G hP 4 (hm_gt (x)) 8 rfl (u) (nI_clamp (by omega)) (hs_inN (by omega) (by decide)) (nI (HM.gt (x) (u))) rfl dX4_meet_24 ?_
      refine lv_istore (lv' := [(4, .int (nI (HM.gt (x) (u)))), (3, .int (nI (k % 4))), (2, .int (nI u)), (0, .ref (bd 0)), (1, .int (nI k))]) hx hb dX4_meet_25 hl (by decide) rfl (fun ls hl => ?_)
      refine lv_aload_n hx hb dX4_meet_27 rfl (lv_at hl 3 rfl) ?_
      refine lv_iload hx hb dX4_meet_28 (lv_at hl 0 rfl) ?_
      refine lv_aload_n hx hb dX4_meet_30 rfl (lv_at hl 3 rfl) ?_
      refine hm_gf G in_X4_meet_X4 hP rfl 1 (by decide) (by decide +kernel) (.ref (bd 2)) rfl rfl dX4_meet_31 ?_
      refine lv_iload_n hx hb dX4_meet_34 rfl (lv_at hl 1 rfl) ?_
      refine hm_lL G hP 2 (HM.ck (x)) 4 rfl (k % 4) (nI_clamp (by omega)) (hs_inN (by omega) (by decide)) (HM.ck (x) (k % 4)) rfl dX4_meet_35 ?_
      refine hs_callV (n := 2) (As := [.int (nI (HM.gt (x) (u))), .long (HM.ck (x) (k % 4))]) (rest := []) G hml (r_receive l D cy bd ho (x) (show HM.gt (x) (u) < 4 by first | omega | exact hi) (HM.ck (x) (k % 4))) gX4_meet_X4_receive rfl rfl rfl (by decide +kernel) ⟨Nat.le_of_ble_eq_true rfl, Nat.le_of_ble_eq_true rfl⟩ (q0 := 0) (ci := 4) (fs := hm_objL bd (x)) rfl rfl rfl rfl hl.1 (Nat.le_of_ble_eq_true rfl) ⟨Nat.zero_le _, Nat.zero_le _⟩ hP hS (fun _ h => h) rfl dX4_meet_36 (fun H locs hP hS _ _ => ?_)
      have hD := hm_D ho cy (HM.tk (x) (HM.gt (x) (u)) (HM.ck (x) (k % 4)))
      refine lv_aload_n hx hb dX4_meet_39 rfl (lv_at hl 3 rfl) ?_
      refine lv_iload_n hx hb dX4_meet_40 rfl (lv_at hl 1 rfl) ?_
      refine lv_aload_n hx hb dX4_meet_41 rfl (lv_at hl 3 rfl) ?_
      refine hm_gf G in_X4_meet_X4 hP rfl 1 (by decide) (by decide +kernel) (.ref (bd 2)) rfl rfl dX4_meet_42 ?_
      refine lv_iload hx hb dX4_meet_45 (lv_at hl 0 rfl) ?_
      refine hm_lL G hP 2 (HM.ck (HM.tk (x) (HM.gt (x) (u)) (HM.ck (x) (k % 4)))) 4 rfl (HM.gt (x) (u)) (nI_clamp (by omega)) (hs_inN (by omega) (by decide)) (HM.ck (HM.tk (x) (HM.gt (x) (u)) (HM.ck (x) (k % 4))) (HM.gt (x) (u))) rfl dX4_meet_47 ?_
      refine hs_callV (n := 2) (As := [.int (nI (k % 4)), .long (HM.ck (HM.tk (x) (HM.gt (x) (u)) (HM.ck (x) (k % 4))) (HM.gt (x) (u)))]) (rest := []) G hml (r_receive l D cy bd ho (HM.tk (x) (HM.gt (x) (u)) (HM.ck (x) (k % 4))) (show k % 4 < 4 by first | omega | exact hi) (HM.ck (HM.tk (x) (HM.gt (x) (u)) (HM.ck (x) (k % 4))) (HM.gt (x) (u)))) gX4_meet_X4_receive rfl rfl rfl (by decide +kernel) ⟨Nat.le_of_ble_eq_true rfl, Nat.le_of_ble_eq_true rfl⟩ (q0 := 0) (ci := 4) (fs := hm_objL bd (HM.tk (x) (HM.gt (x) (u)) (HM.ck (x) (k % 4)))) rfl rfl rfl rfl hl.1 (Nat.le_of_ble_eq_true rfl) ⟨Nat.zero_le _, Nat.zero_le _⟩ hP hS (fun _ h => h) rfl dX4_meet_48 (fun H locs hP hS _ _ => ?_)
      have hD := hm_D ho cy (HM.tk (HM.tk (x) (HM.gt (x) (u)) (HM.ck (x) (k % 4))) (k % 4) (HM.ck (HM.tk (x) (HM.gt (x) (u)) (HM.ck (x) (k % 4))) (HM.gt (x) (u))))
      have hP : va_P D vwCl (hm_mem bd cy (x.lk2 k u)) H := hP
      have hD := hm_D ho cy (x.lk2 k u)
      refine lv_aload_n hx hb dX4_meet_51 rfl (lv_at hl 3 rfl) ?_
      refine hm_gf G in_X4_meet_X4 hP rfl 2 (by decide) (by decide +kernel) (.ref (bd 3)) rfl rfl dX4_meet_52 ?_
      refine lv_iload_n hx hb dX4_meet_55 rfl (lv_at hl 2 rfl) ?_
      refine hm_lI G hP 3 (HM.ph (HM.lk2 x k u)) 8 rfl (u) (nI_clamp (by omega)) (hs_inN (by omega) (by decide)) (HM.ph (HM.lk2 x k u) (u)) rfl dX4_meet_56 ?_
      refine lv_iconst (v := 1) hx hb dX4_meet_57 (by decide) ?_
      refine lv_icmp_ne (tgt := 87) hx hb dX4_meet_58 (by decide) (fun c_2 => ?_) (fun c_2 => ?_)
      · have hP : va_P D vwCl (hm_mem bd cy (x.lk3 k u)) H := by rw [HM.lk3, HM.sil, if_neg (fun q => c_2 q.1)]; exact hP
        have hD := hm_D ho cy (x.lk3 k u)
        refine lv_aload_n hx hb dX4_meet_87 rfl (lv_at hl 3 rfl) ?_
        refine hm_gf G in_X4_meet_X4 hP rfl 2 (by decide) (by decide +kernel) (.ref (bd 3)) rfl rfl dX4_meet_88 ?_
        refine lv_iload_n hx hb dX4_meet_91 rfl (lv_at hl 2 rfl) ?_
        refine hm_lI G hP 3 (HM.ph (HM.lk3 x k u)) 8 rfl (u) (nI_clamp (by omega)) (hs_inN (by omega) (by decide)) (HM.ph (HM.lk3 x k u) (u)) rfl dX4_meet_92 ?_
        refine lv_iconst (v := 1) hx hb dX4_meet_93 (by decide) ?_
        refine lv_icmp_ne (tgt := 99) hx hb dX4_meet_94 (by decide) (fun c_3 => ?_) (fun c_3 => ?_)
        · refine lv_aload_n hx hb dX4_meet_99 rfl (lv_at hl 3 rfl) ?_
          refine lv_iload_n hx hb dX4_meet_100 rfl (lv_at hl 4 rfl) ?_
          refine hs_callV (n := 1) (As := [.int (nI k)]) (rest := []) G hml (r_settle l D cy bd ho (HM.lk3 x k u) (hk) (hu) (by rw [hs_lk3_hd]; exact hh) (by rw [hs_lk3_vs]; exact hlen)) gX4_meet_X4_settle rfl rfl rfl (by decide +kernel) ⟨Nat.le_of_ble_eq_true rfl, Nat.le_of_ble_eq_true rfl⟩ (q0 := 0) (ci := 4) (fs := hm_objL bd (HM.lk3 x k u)) rfl rfl rfl rfl hl.1 (Nat.le_of_ble_eq_true rfl) ⟨Nat.zero_le _, Nat.zero_le _⟩ hP hS (fun _ h => h) rfl dX4_meet_101 (fun H locs hP hS _ _ => ?_)
          have hD := hm_D ho cy (HM.stl (HM.lk3 x k u) (k) (u))
          refine lv_iconst (v := (-1)) hx hb dX4_meet_104 (by decide) ?_
          exact ct_iret hx hb hr hlocks (by rw [HM.lkU, hh]; dsimp only; rw [if_neg hut, if_neg c_3]; rfl) (by rw [HM.look, hh]; dsimp only; rw [if_neg hut, HM.lk, if_neg c_3]; exact hP) hS dX4_meet_105
        · refine lv_iload_n hx hb dX4_meet_97 rfl (lv_at hl 2 rfl) ?_
          exact ct_iret hx hb hr hlocks (by rw [HM.lkU, hh]; dsimp only; rw [if_neg hut, if_pos c_3]; rfl) (by rw [HM.look, hh]; dsimp only; rw [if_neg hut, HM.lk, if_pos c_3]; exact hP) hS dX4_meet_98
      · refine lv_aload_n hx hb dX4_meet_61 rfl (lv_at hl 3 rfl) ?_
        refine hm_gf G in_X4_meet_X4 hP rfl 0 (by decide) (by decide +kernel) (.ref (bd 1)) rfl rfl dX4_meet_62 ?_
        refine lv_iload hx hb dX4_meet_65 (lv_at hl 0 rfl) ?_
        refine hm_lI G hP 1 (HM.rd (HM.lk2 x k u)) 4 rfl (HM.gt (x) (u)) (nI_clamp (by omega)) (hs_inN (by omega) (by decide)) (HM.rd (HM.lk2 x k u) (HM.gt (x) (u))) rfl dX4_meet_67 ?_
        refine lv_aload_n hx hb dX4_meet_68 rfl (lv_at hl 3 rfl) ?_
        refine hm_gf G in_X4_meet_X4 hP rfl 4 (by decide) (by decide +kernel) (.ref (bd 5)) rfl rfl dX4_meet_69 ?_
        refine lv_iload_n hx hb dX4_meet_72 rfl (lv_at hl 2 rfl) ?_
        refine hm_lI G hP 5 (HM.bt (HM.lk2 x k u)) 8 rfl (u) (nI_clamp (by omega)) (hs_inN (by omega) (by decide)) (HM.bt (HM.lk2 x k u) (u)) rfl dX4_meet_73 ?_
        refine lv_isub hx hb dX4_meet_74 ?_
        refine lv_bipush (v := 40) hx hb dX4_meet_75 (by decide) ?_
        refine lv_icmp_le (tgt := 87) hx hb dX4_meet_77 (by decide) (fun c_4 => ?_) (fun c_4 => ?_)
        · have hP : va_P D vwCl (hm_mem bd cy (x.lk3 k u)) H := by rw [HM.lk3, HM.sil, if_neg (fun q => Int32.not_le.mpr q.2 c_4)]; exact hP
          have hD := hm_D ho cy (x.lk3 k u)
          refine lv_aload_n hx hb dX4_meet_87 rfl (lv_at hl 3 rfl) ?_
          refine hm_gf G in_X4_meet_X4 hP rfl 2 (by decide) (by decide +kernel) (.ref (bd 3)) rfl rfl dX4_meet_88 ?_
          refine lv_iload_n hx hb dX4_meet_91 rfl (lv_at hl 2 rfl) ?_
          refine hm_lI G hP 3 (HM.ph (HM.lk3 x k u)) 8 rfl (u) (nI_clamp (by omega)) (hs_inN (by omega) (by decide)) (HM.ph (HM.lk3 x k u) (u)) rfl dX4_meet_92 ?_
          refine lv_iconst (v := 1) hx hb dX4_meet_93 (by decide) ?_
          refine lv_icmp_ne (tgt := 99) hx hb dX4_meet_94 (by decide) (fun c_5 => ?_) (fun c_5 => ?_)
          · refine lv_aload_n hx hb dX4_meet_99 rfl (lv_at hl 3 rfl) ?_
            refine lv_iload_n hx hb dX4_meet_100 rfl (lv_at hl 4 rfl) ?_
            refine hs_callV (n := 1) (As := [.int (nI k)]) (rest := []) G hml (r_settle l D cy bd ho (HM.lk3 x k u) (hk) (hu) (by rw [hs_lk3_hd]; exact hh) (by rw [hs_lk3_vs]; exact hlen)) gX4_meet_X4_settle rfl rfl rfl (by decide +kernel) ⟨Nat.le_of_ble_eq_true rfl, Nat.le_of_ble_eq_true rfl⟩ (q0 := 0) (ci := 4) (fs := hm_objL bd (HM.lk3 x k u)) rfl rfl rfl rfl hl.1 (Nat.le_of_ble_eq_true rfl) ⟨Nat.zero_le _, Nat.zero_le _⟩ hP hS (fun _ h => h) rfl dX4_meet_101 (fun H locs hP hS _ _ => ?_)
            have hD := hm_D ho cy (HM.stl (HM.lk3 x k u) (k) (u))
            refine lv_iconst (v := (-1)) hx hb dX4_meet_104 (by decide) ?_
            exact ct_iret hx hb hr hlocks (by rw [HM.lkU, hh]; dsimp only; rw [if_neg hut, if_neg c_5]; rfl) (by rw [HM.look, hh]; dsimp only; rw [if_neg hut, HM.lk, if_neg c_5]; exact hP) hS dX4_meet_105
          · refine lv_iload_n hx hb dX4_meet_97 rfl (lv_at hl 2 rfl) ?_
            exact ct_iret hx hb hr hlocks (by rw [HM.lkU, hh]; dsimp only; rw [if_neg hut, if_pos c_5]; rfl) (by rw [HM.look, hh]; dsimp only; rw [if_neg hut, HM.lk, if_pos c_5]; exact hP) hS dX4_meet_98
        · refine lv_aload_n hx hb dX4_meet_80 rfl (lv_at hl 3 rfl) ?_
          refine hm_gf G in_X4_meet_X4 hP rfl 2 (by decide) (by decide +kernel) (.ref (bd 3)) rfl rfl dX4_meet_81 ?_
          refine lv_iload_n hx hb dX4_meet_84 rfl (lv_at hl 2 rfl) ?_
          refine lv_iconst (v := 3) hx hb dX4_meet_85 (by decide) ?_
          refine hm_sI G hP hD hS 3 (HM.ph (HM.lk2 x k u)) 8 rfl (u) (nI_clamp (by omega)) (hs_inN (by omega) (by decide)) (hm_mem bd cy (HM.u_ph (HM.lk2 x k u) (u) (3))) hm_s_ph dX4_meet_86 (fun H locs hP hD hS => ?_)
          have hP : va_P D vwCl (hm_mem bd cy (x.lk3 k u)) H := by rw [HM.lk3, HM.sil, if_pos ⟨c_2, Int32.not_le.mp c_4⟩]; exact hP
          have hD := hm_D ho cy (x.lk3 k u)
          refine lv_aload_n hx hb dX4_meet_87 rfl (lv_at hl 3 rfl) ?_
          refine hm_gf G in_X4_meet_X4 hP rfl 2 (by decide) (by decide +kernel) (.ref (bd 3)) rfl rfl dX4_meet_88 ?_
          refine lv_iload_n hx hb dX4_meet_91 rfl (lv_at hl 2 rfl) ?_
          refine hm_lI G hP 3 (HM.ph (HM.lk3 x k u)) 8 rfl (u) (nI_clamp (by omega)) (hs_inN (by omega) (by decide)) (HM.ph (HM.lk3 x k u) (u)) rfl dX4_meet_92 ?_
          refine lv_iconst (v := 1) hx hb dX4_meet_93 (by decide) ?_
          refine lv_icmp_ne (tgt := 99) hx hb dX4_meet_94 (by decide) (fun c_6 => ?_) (fun c_6 => ?_)
          · refine lv_aload_n hx hb dX4_meet_99 rfl (lv_at hl 3 rfl) ?_
            refine lv_iload_n hx hb dX4_meet_100 rfl (lv_at hl 4 rfl) ?_
            refine hs_callV (n := 1) (As := [.int (nI k)]) (rest := []) G hml (r_settle l D cy bd ho (HM.lk3 x k u) (hk) (hu) (by rw [hs_lk3_hd]; exact hh) (by rw [hs_lk3_vs]; exact hlen)) gX4_meet_X4_settle rfl rfl rfl (by decide +kernel) ⟨Nat.le_of_ble_eq_true rfl, Nat.le_of_ble_eq_true rfl⟩ (q0 := 0) (ci := 4) (fs := hm_objL bd (HM.lk3 x k u)) rfl rfl rfl rfl hl.1 (Nat.le_of_ble_eq_true rfl) ⟨Nat.zero_le _, Nat.zero_le _⟩ hP hS (fun _ h => h) rfl dX4_meet_101 (fun H locs hP hS _ _ => ?_)
            have hD := hm_D ho cy (HM.stl (HM.lk3 x k u) (k) (u))
            refine lv_iconst (v := (-1)) hx hb dX4_meet_104 (by decide) ?_
            exact ct_iret hx hb hr hlocks (by rw [HM.lkU, hh]; dsimp only; rw [if_neg hut, if_neg c_6]; rfl) (by rw [HM.look, hh]; dsimp only; rw [if_neg hut, HM.lk, if_neg c_6]; exact hP) hS dX4_meet_105
          · refine lv_iload_n hx hb dX4_meet_97 rfl (lv_at hl 2 rfl) ?_
            exact ct_iret hx hb hr hlocks (by rw [HM.lkU, hh]; dsimp only; rw [if_neg hut, if_pos c_6]; rfl) (by rw [HM.look, hh]; dsimp only; rw [if_neg hut, HM.lk, if_pos c_6]; exact hP) hS dX4_meet_98
    · exact absurd (nI_pos' (by omega)) c_1

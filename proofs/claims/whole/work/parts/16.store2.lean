theorem hs_rng (z : Int32) {b : Nat} (hb : b < 2 ^ 31) : (z < 0 ∨ nI b ≤ z) ∨ ∃ j : Nat, j < b ∧ z = nI j := by
  rcases pk_ix z hb with h | h | h
  · exact Or.inl (Or.inl h)
  · exact Or.inl (Or.inr h)
  · exact Or.inr h
theorem in_X3_moveReadToWriteStamp_X0 : ∀ w ∈ u_ws RX0 TX0 8, w ∈ wsX3_moveReadToWriteStamp := by decide +kernel
theorem in_X3_moveReadToWriteStamp_X1 : ∀ w ∈ u_ws RX1 TX1 2, w ∈ wsX3_moveReadToWriteStamp := by decide +kernel
theorem in_X3_moveReadToWriteStamp_X2 : ∀ w ∈ u_ws RX2 TX2 9, w ∈ wsX3_moveReadToWriteStamp := by decide +kernel
set_option maxHeartbeats 4000000 in
set_option maxRecDepth 100000 in
/-- moveReadToWriteStamp -/
theorem c_moveRead (l : Launch) (D : va_G) (cy : Nat → ClassId) (ad : Nat → Nat) (ho : hc_ok ad) (x : HM) (B : Int) (hIn : x.In B) (hB : B + 10 < 4611686018427387904) {t : Nat} (ht : t < 8) {k : Nat} (hk : k < 16) : Ct l yX3_moveReadToWriteStamp wsX3_moveReadToWriteStamp ({ frames := 3, cells := 0, slots := 0, locals := 65 }) D cy (hc_A ad) [.ref (ad (57 + t)), .ref (ad (9 + k))] (hc_mem ad cy (x)) (some (.int (if x.mrC t k then 0 else 1))) (hc_mem ad cy (x.mrM t k)) := by
  refine ct_of (cc := cX3_moveReadToWriteStamp) (maxL := 4) (ret := (some .boolean)) rfl (by decide) (Nat.le_of_ble_eq_true rfl) ?_
  intro p e s m below meth c ls G hx hb hml hr hlocks hP hS hl
  have hl : lv_has ls 4 [(0, .ref (ad (57 + t))), (1, .ref (ad (9 + k)))] := hl
  have hm : k % 4 < 4 := Nat.mod_lt _ (by decide)
  have hI1 : (x.tk (k % 4) (x.ck (x.gt t))).In (B + 1) := hIn.tk (by omega) hm (hIn.ck (hIn.gt ht))
  have hI1b := hI1.look (t := t) (by omega) hk
  have hI2 := hIn.mr1 (by omega) ht hk
  have hI3 := hIn.mr2 (by omega) ht hk
  have J32 : ∀ (H : Heap) (locs : List Loc), va_P D vwCl (hc_mem ad cy (x.mr1 t k)) H → va_S (hc_A ad) s.heap H locs → ∀ ls : Array Slot, lv_has ls 4 [(0, .ref (ad (57 + t))), (1, .ref (ad (9 + k)))] → W p l e ({ frames := 3, cells := 0, slots := 0, locals := 65 }) s m [.ref (ad (57 + t)), .ref (ad (9 + k))].toArray below meth c H locs 0 0 (MQ below (hs_Post D (some (.int (if x.mrC t k then 0 else 1))) (hc_mem ad cy (x.mrM t k)) (hc_A ad)) [.ref (ad (57 + t)), .ref (ad (9 + k))].toArray s 0 0 (hc_A ad)) (F0 m 32 ls []) := by
    intro H locs hP hS ls hl
    refine lv_aload_n hx hb dX3_moveReadToWriteStamp_32 rfl (lv_at hl 1 rfl) ?_
    refine lv_aload_n hx hb dX3_moveReadToWriteStamp_33 rfl (lv_at hl 0 rfl) ?_
    refine hc_g_txn G (in_X3_moveReadToWriteStamp_X2) hP (ht) 4 (by decide) (by decide +kernel) (.long (HM.rs (HM.mr1 x t k) (t))) rfl rfl dX3_moveReadToWriteStamp_34 ?_
    refine lv_aload_n hx hb dX3_moveReadToWriteStamp_37 rfl (lv_at hl 0 rfl) ?_
    refine hc_g_txn G (in_X3_moveReadToWriteStamp_X2) hP (ht) 5 (by decide) (by decide +kernel) (.long (HM.ws (HM.mr1 x t k) (t))) rfl rfl dX3_moveReadToWriteStamp_38 ?_
    refine hs_callN (n := 2) (As := [.long (HM.rs (HM.mr1 x t k) (t)), .long (HM.ws (HM.mr1 x t k) (t))]) (rest := []) G hml (c_greatest l D cy ad ho (HM.mr1 x t k) (hk) (hI2.le16 (hk)) (HM.rs (HM.mr1 x t k) (t)) (HM.ws (HM.mr1 x t k) (t))) gX3_moveReadToWriteStamp_X0_greatestStampIn_n156 rfl rfl rfl (by decide +kernel) (by decide +kernel) (by decide +kernel) (C := RX0) (by decide +kernel) (by decide +kernel) ⟨Nat.le_of_ble_eq_true rfl, Nat.le_of_ble_eq_true rfl⟩ (ci := 0) rfl rfl (hc_at_key (hk)) rfl hl.1 (Nat.le_of_ble_eq_true rfl) ⟨Nat.zero_le _, Nat.zero_le _⟩ hP hS (fun _ h => h) rfl dX3_moveReadToWriteStamp_41 (fun H locs hP hS _ _ => ?_)
    refine lv_ldc2 (v := (-1)) hx hb G.2.2.2.1 (G.2.2.1 (.constantLong RX3 53 (-1)) (by decide +kernel)) dX3_moveReadToWriteStamp_44 ?_
    refine hs_leq (x := hs_gs (hs_best (HM.rs (HM.mr1 x t k) (t)) (HM.ws (HM.mr1 x t k) (t)) (HM.vk (HM.mr1 x t k) (k)))) (y := (-1)) (tgt := 55) hx hb dX3_moveReadToWriteStamp_47 dX3_moveReadToWriteStamp_48 (by decide) (fun c_1 => ?_) (fun c_1 => ?_)
    · have hc : x.mrC t k = false := by rw [HM.mrC, (hI2.gs_m1 _ _ _).mp c_1]; rfl
      refine lv_iconst (v := 0) hx hb dX3_moveReadToWriteStamp_55 (by decide) ?_
      refine lv_istore_n (lv' := [(3, .int (0)), (0, .ref (ad (57 + t))), (1, .ref (ad (9 + k)))]) hx hb dX3_moveReadToWriteStamp_56 rfl hl (by decide) rfl (fun ls hl => ?_)
      refine lv_iload_n hx hb dX3_moveReadToWriteStamp_57 rfl (lv_at hl 0 rfl) ?_
      refine lv_if_ne (tgt := 69) hx hb dX3_moveReadToWriteStamp_58 (by decide) (fun c_2 => ?_) (fun c_2 => ?_)
      · exact absurd rfl c_2
      · refine lv_aload_n hx hb dX3_moveReadToWriteStamp_61 rfl (lv_at hl 2 rfl) ?_
        refine lv_aload_n hx hb dX3_moveReadToWriteStamp_62 rfl (lv_at hl 1 rfl) ?_
        refine hc_g_txn G (in_X3_moveReadToWriteStamp_X2) hP (ht) 5 (by decide) (by decide +kernel) (.long (HM.ws (HM.mr1 x t k) (t))) rfl rfl dX3_moveReadToWriteStamp_63 ?_
        refine hs_callN (n := 1) (As := [.long (HM.ws (HM.mr1 x t k) (t))]) (rest := []) G hml (c_raise l D cy ad ho (HM.mr1 x t k) (hk) (HM.ws (HM.mr1 x t k) (t))) gX3_moveReadToWriteStamp_X0_raiseReadMark_n162 rfl rfl rfl (by decide +kernel) (by decide +kernel) (by decide +kernel) (C := RX0) (by decide +kernel) (by decide +kernel) ⟨Nat.le_of_ble_eq_true rfl, Nat.le_of_ble_eq_true rfl⟩ (ci := 0) rfl rfl (hc_at_key (hk)) rfl hl.1 (Nat.le_of_ble_eq_true rfl) ⟨Nat.zero_le _, Nat.zero_le _⟩ hP hS (fun _ h => h) rfl dX3_moveReadToWriteStamp_66 (fun H locs hP hS _ _ => ?_)
        have hP : va_P D vwCl (hc_mem ad cy (x.mr2 t k)) H := by rw [HM.mr2, if_neg (by rw [hc]; decide)]; exact hP
        refine lv_aload_n hx hb dX3_moveReadToWriteStamp_69 rfl (lv_at hl 1 rfl) ?_
        refine hc_g_txn G (in_X3_moveReadToWriteStamp_X2) hP (ht) 1 (by decide) (by decide +kernel) (.ref (ad (5 + HM.gt (HM.mr2 x t k) (t)))) rfl rfl dX3_moveReadToWriteStamp_70 ?_
        refine lv_aload_n hx hb dX3_moveReadToWriteStamp_73 rfl (lv_at hl 2 rfl) ?_
        refine hc_g_keyn G (in_X3_moveReadToWriteStamp_X0) hP (hk) 1 (by decide) (by decide +kernel) (.ref (ad (5 + (k) % 4))) rfl rfl dX3_moveReadToWriteStamp_74 ?_
        refine hc_g_noden G (in_X3_moveReadToWriteStamp_X1) hP ((Nat.mod_lt _ (by decide))) 1 (by decide) (by decide +kernel) (.long (HM.ck (HM.mr2 x t k) ((k) % 4))) rfl rfl dX3_moveReadToWriteStamp_77 ?_
        refine hs_callN (n := 1) (As := [.long (HM.ck (HM.mr2 x t k) ((k) % 4))]) (rest := []) G hml (c_takeIn l D cy ad ho (HM.mr2 x t k) ((hI3.gt ht)) (HM.ck (HM.mr2 x t k) ((k) % 4))) gX3_moveReadToWriteStamp_X1_takeIn_n92 rfl rfl rfl (by decide +kernel) (by decide +kernel) (by decide +kernel) (C := RX1) (by decide +kernel) (by decide +kernel) ⟨Nat.le_of_ble_eq_true rfl, Nat.le_of_ble_eq_true rfl⟩ (ci := 1) rfl rfl (hc_at_node ((hI3.gt ht))) rfl hl.1 (Nat.le_of_ble_eq_true rfl) ⟨Nat.zero_le _, Nat.zero_le _⟩ hP hS (fun _ h => h) rfl dX3_moveReadToWriteStamp_80 (fun H locs hP hS _ _ => ?_)
        refine lv_iload_n hx hb dX3_moveReadToWriteStamp_83 rfl (lv_at hl 0 rfl) ?_
        refine lv_if_ne (tgt := 91) hx hb dX3_moveReadToWriteStamp_84 (by decide) (fun c_3 => ?_) (fun c_3 => ?_)
        · exact absurd rfl c_3
        · refine lv_iconst (v := 1) hx hb dX3_moveReadToWriteStamp_87 (by decide) ?_
          refine lv_goto (tgt := 92) hx hb dX3_moveReadToWriteStamp_88 (by decide) ?_
          exact ct_zret hx hb hr hlocks (by decide) (by rw [hc]; rfl) hP hS dX3_moveReadToWriteStamp_92
    · have hc : x.mrC t k = true := by
        obtain ⟨v, hv⟩ := Option.ne_none_iff_exists'.mp (fun q => c_1 ((hI2.gs_m1 _ _ _).mpr q))
        rw [HM.mrC, hv]; rfl
      refine lv_iconst (v := 1) hx hb dX3_moveReadToWriteStamp_51 (by decide) ?_
      refine lv_goto (tgt := 56) hx hb dX3_moveReadToWriteStamp_52 (by decide) ?_
      refine lv_istore_n (lv' := [(3, .int (1)), (0, .ref (ad (57 + t))), (1, .ref (ad (9 + k)))]) hx hb dX3_moveReadToWriteStamp_56 rfl hl (by decide) rfl (fun ls hl => ?_)
      refine lv_iload_n hx hb dX3_moveReadToWriteStamp_57 rfl (lv_at hl 0 rfl) ?_
      refine lv_if_ne (tgt := 69) hx hb dX3_moveReadToWriteStamp_58 (by decide) (fun c_4 => ?_) (fun c_4 => ?_)
      · have hP : va_P D vwCl (hc_mem ad cy (x.mr2 t k)) H := by rw [HM.mr2, if_pos hc]; exact hP
        refine lv_aload_n hx hb dX3_moveReadToWriteStamp_69 rfl (lv_at hl 1 rfl) ?_
        refine hc_g_txn G (in_X3_moveReadToWriteStamp_X2) hP (ht) 1 (by decide) (by decide +kernel) (.ref (ad (5 + HM.gt (HM.mr2 x t k) (t)))) rfl rfl dX3_moveReadToWriteStamp_70 ?_
        refine lv_aload_n hx hb dX3_moveReadToWriteStamp_73 rfl (lv_at hl 2 rfl) ?_
        refine hc_g_keyn G (in_X3_moveReadToWriteStamp_X0) hP (hk) 1 (by decide) (by decide +kernel) (.ref (ad (5 + (k) % 4))) rfl rfl dX3_moveReadToWriteStamp_74 ?_
        refine hc_g_noden G (in_X3_moveReadToWriteStamp_X1) hP ((Nat.mod_lt _ (by decide))) 1 (by decide) (by decide +kernel) (.long (HM.ck (HM.mr2 x t k) ((k) % 4))) rfl rfl dX3_moveReadToWriteStamp_77 ?_
        refine hs_callN (n := 1) (As := [.long (HM.ck (HM.mr2 x t k) ((k) % 4))]) (rest := []) G hml (c_takeIn l D cy ad ho (HM.mr2 x t k) ((hI3.gt ht)) (HM.ck (HM.mr2 x t k) ((k) % 4))) gX3_moveReadToWriteStamp_X1_takeIn_n92 rfl rfl rfl (by decide +kernel) (by decide +kernel) (by decide +kernel) (C := RX1) (by decide +kernel) (by decide +kernel) ⟨Nat.le_of_ble_eq_true rfl, Nat.le_of_ble_eq_true rfl⟩ (ci := 1) rfl rfl (hc_at_node ((hI3.gt ht))) rfl hl.1 (Nat.le_of_ble_eq_true rfl) ⟨Nat.zero_le _, Nat.zero_le _⟩ hP hS (fun _ h => h) rfl dX3_moveReadToWriteStamp_80 (fun H locs hP hS _ _ => ?_)
        refine lv_iload_n hx hb dX3_moveReadToWriteStamp_83 rfl (lv_at hl 0 rfl) ?_
        refine lv_if_ne (tgt := 91) hx hb dX3_moveReadToWriteStamp_84 (by decide) (fun c_5 => ?_) (fun c_5 => ?_)
        · refine lv_iconst (v := 0) hx hb dX3_moveReadToWriteStamp_91 (by decide) ?_
          exact ct_zret hx hb hr hlocks (by decide) (by rw [hc]; rfl) hP hS dX3_moveReadToWriteStamp_92
        · exact absurd c_5 (by decide)
      · exact absurd c_4 (by decide)
  refine lv_aload_n hx hb dX3_moveReadToWriteStamp_0 rfl (lv_at hl 1 rfl) ?_
  refine hc_g_keyn G (in_X3_moveReadToWriteStamp_X0) hP (hk) 1 (by decide) (by decide +kernel) (.ref (ad (5 + (k) % 4))) rfl rfl dX3_moveReadToWriteStamp_1 ?_
  refine lv_aload_n hx hb dX3_moveReadToWriteStamp_4 rfl (lv_at hl 0 rfl) ?_
  refine hc_g_txn G (in_X3_moveReadToWriteStamp_X2) hP (ht) 1 (by decide) (by decide +kernel) (.ref (ad (5 + HM.gt (x) (t)))) rfl rfl dX3_moveReadToWriteStamp_5 ?_
  refine hc_g_noden G (in_X3_moveReadToWriteStamp_X1) hP ((hIn.gt ht)) 1 (by decide) (by decide +kernel) (.long (HM.ck (x) (HM.gt (x) (t)))) rfl rfl dX3_moveReadToWriteStamp_8 ?_
  refine hs_callN (n := 1) (As := [.long (HM.ck (x) (HM.gt (x) (t)))]) (rest := []) G hml (c_takeIn l D cy ad ho (x) ((Nat.mod_lt _ (by decide))) (HM.ck (x) (HM.gt (x) (t)))) gX3_moveReadToWriteStamp_X1_takeIn_n92 rfl rfl rfl (by decide +kernel) (by decide +kernel) (by decide +kernel) (C := RX1) (by decide +kernel) (by decide +kernel) ⟨Nat.le_of_ble_eq_true rfl, Nat.le_of_ble_eq_true rfl⟩ (ci := 1) rfl rfl (hc_at_node ((Nat.mod_lt _ (by decide)))) rfl hl.1 (Nat.le_of_ble_eq_true rfl) ⟨Nat.zero_le _, Nat.zero_le _⟩ hP hS (fun _ h => h) rfl dX3_moveReadToWriteStamp_11 (fun H locs hP hS _ _ => ?_)
  refine lv_aload_n hx hb dX3_moveReadToWriteStamp_14 rfl (lv_at hl 1 rfl) ?_
  refine lv_aload_n hx hb dX3_moveReadToWriteStamp_15 rfl (lv_at hl 0 rfl) ?_
  refine hs_callS (n := 2) (As := [.ref (ad (9 + k)), .ref (ad (57 + t))]) (rest := []) G hml (c_lookUp l D cy ad ho (HM.tk (x) ((k) % 4) (HM.ck (x) (HM.gt (x) (t)))) (hk) (hI1.hd (hk)) (fun _ h => hI1.gt h) (hI1.lt16 (hk)) (ht)) gX3_moveReadToWriteStamp_X3_lookUp rfl rfl rfl (by decide +kernel) ⟨Nat.le_of_ble_eq_true rfl, Nat.le_of_ble_eq_true rfl⟩ rfl hl.1 (Nat.le_of_ble_eq_true rfl) ⟨Nat.zero_le _, Nat.zero_le _⟩ hP hS (fun _ h => h) rfl dX3_moveReadToWriteStamp_16 (fun H locs hP hS _ _ => ?_)
  cases hlu : HM.lkU (x.tk (k % 4) (x.ck (x.gt t))) (t) (k) with
  | none =>
    show W _ _ _ _ _ _ _ _ _ _ _ _ _ _ _ (F0 m 19 ls (.null :: []))
    refine lv_astore_nN (lv' := [(2, .null), (0, .ref (ad (57 + t))), (1, .ref (ad (9 + k)))]) hx hb dX3_moveReadToWriteStamp_19 rfl hl (by decide) rfl (fun ls hl => ?_)
    refine lv_aload_nN hx hb dX3_moveReadToWriteStamp_20 rfl (lv_at hl 0 rfl) ?_
    refine lv_ifnullN (tgt := 32) hx hb dX3_moveReadToWriteStamp_21 (by decide) ?_
    exact J32 H locs (by rw [HM.mr1, HM.lpW, hlu]; exact hP) hS ls (lv_sub hl [1, 2] rfl)
  | some u =>
    have hu8 : u < 8 := hI1.lkU hk hlu
    show W _ _ _ _ _ _ _ _ _ _ _ _ _ _ _ (F0 m 19 ls (.ref (ad (57 + u)) :: []))
    refine lv_astore_n (lv' := [(2, .ref (ad (57 + u))), (0, .ref (ad (57 + t))), (1, .ref (ad (9 + k)))]) hx hb dX3_moveReadToWriteStamp_19 rfl hl (by decide) rfl (fun ls hl => ?_)
    refine lv_aload_n hx hb dX3_moveReadToWriteStamp_20 rfl (lv_at hl 0 rfl) ?_
    refine lv_ifnull hx hb dX3_moveReadToWriteStamp_21 ?_
    refine lv_aload_n hx hb dX3_moveReadToWriteStamp_24 rfl (lv_at hl 0 rfl) ?_
    refine lv_aload_n hx hb dX3_moveReadToWriteStamp_25 rfl (lv_at hl 1 rfl) ?_
    refine hc_g_txn G (in_X3_moveReadToWriteStamp_X2) hP (ht) 5 (by decide) (by decide +kernel) (.long (HM.ws (HM.look (HM.tk (x) ((k) % 4) (HM.ck (x) (HM.gt (x) (t)))) (t) (k)) (t))) rfl rfl dX3_moveReadToWriteStamp_26 ?_
    refine hs_callN (n := 1) (As := [.long (HM.ws (HM.look (HM.tk (x) ((k) % 4) (HM.ck (x) (HM.gt (x) (t)))) (t) (k)) (t))]) (rest := []) G hml (c_push l D cy ad ho (HM.look (HM.tk (x) ((k) % 4) (HM.ck (x) (HM.gt (x) (t)))) (t) (k)) (hu8) (HM.ws (HM.look (HM.tk (x) ((k) % 4) (HM.ck (x) (HM.gt (x) (t)))) (t) (k)) (t)) (hs_lt_max (B := B + 1 + 2) (by omega) (hI1b.ws ht).2)) gX3_moveReadToWriteStamp_X2_pushWriteStampAbove_n150 rfl rfl rfl (by decide +kernel) (by decide +kernel) (by decide +kernel) (C := RX2) (by decide +kernel) (by decide +kernel) ⟨Nat.le_of_ble_eq_true rfl, Nat.le_of_ble_eq_true rfl⟩ (ci := 2) rfl rfl (hc_at_tx (hu8)) rfl hl.1 (Nat.le_of_ble_eq_true rfl) ⟨Nat.zero_le _, Nat.zero_le _⟩ hP hS (fun _ h => h) rfl dX3_moveReadToWriteStamp_29 (fun H locs hP hS _ _ => ?_)
    exact J32 H locs (by rw [HM.mr1, HM.lpW, hlu]; exact hP) hS ls (lv_sub hl [1, 2] rfl)
theorem in_X3_moveReadsToWriteStamp_X3 : ∀ w ∈ u_ws RX3 TX3 6, w ∈ wsX3_moveReadsToWriteStamp := by decide +kernel
theorem in_X3_moveReadsToWriteStamp_X0 : ∀ w ∈ u_ws RX0 TX0 8, w ∈ wsX3_moveReadsToWriteStamp := by decide +kernel
theorem in_X3_moveReadsToWriteStamp_X2 : ∀ w ∈ u_ws RX2 TX2 9, w ∈ wsX3_moveReadsToWriteStamp := by decide +kernel
set_option maxHeartbeats 4000000 in
set_option maxRecDepth 100000 in
/-- moveReadsToWriteStamp -/
theorem c_moveReads (l : Launch) (D : va_G) (cy : Nat → ClassId) (ad : Nat → Nat) (ho : hc_ok ad) (x : HM) (B : Int) (hIn : x.In B) (hB : B + 100 < 4611686018427387904) {t : Nat} (ht : t < 8) : Ct l yX3_moveReadsToWriteStamp wsX3_moveReadsToWriteStamp ({ frames := 4, cells := 0, slots := 0, locals := 88 }) D cy (hc_A ad) [.ref (ad 0), .ref (ad (57 + t))] (hc_mem ad cy (x)) (some (.int (if (hs_mrs t 16 0 x).2 then 1 else 0))) (hc_mem ad cy ((hs_mrs t 16 0 x).1)) := by
  refine ct_of (cc := cX3_moveReadsToWriteStamp) (maxL := 6) (ret := (some .boolean)) rfl (by decide) (Nat.le_of_ble_eq_true rfl) ?_
  intro p e s m below meth c ls G hx hb hml hr hlocks hP hS hl
  have hl : lv_has ls 6 [(0, .ref (ad 0)), (1, .ref (ad (57 + t)))] := hl
  have loop : ∀ (n i : Nat), i + n = 16 → ∀ (y : HM) (C : Int), y.In C → C + 5 * n + 20 < 4611686018427387904 → hs_mrs t n i y = hs_mrs t 16 0 x → ∀ (H : Heap) (locs : List Loc), va_P D vwCl (hc_mem ad cy y) H → va_S (hc_A ad) s.heap H locs → ∀ ls : Array Slot, lv_has ls 6 [(4, .int (nI i)), (3, .int (16)), (2, .ref (ad 2)), (0, .ref (ad 0)), (1, .ref (ad (57 + t)))] → W p l e ({ frames := 4, cells := 0, slots := 0, locals := 88 }) s m [.ref (ad 0), .ref (ad (57 + t))].toArray below meth c H locs 0 0 (MQ below (hs_Post D (some (.int (if (hs_mrs t 16 0 x).2 then 1 else 0))) (hc_mem ad cy ((hs_mrs t 16 0 x).1)) (hc_A ad)) [.ref (ad 0), .ref (ad (57 + t))].toArray s 0 0 (hc_A ad)) (F0 m 11 ls []) := by
    intro n
    induction n with
    | zero =>
      intro i hi y C hy hC he H locs hP hS ls hl
      refine lv_iload hx hb dX3_moveReadsToWriteStamp_11 (lv_at hl 0 rfl) ?_
      refine lv_iload_n hx hb dX3_moveReadsToWriteStamp_13 rfl (lv_at hl 1 rfl) ?_
      refine lv_icmp_ge (tgt := 53) hx hb dX3_moveReadsToWriteStamp_14 (by decide) (fun c_1 => ?_) (fun c_1 => ?_)
      · refine lv_iconst (v := 1) hx hb dX3_moveReadsToWriteStamp_53 (by decide) ?_
        exact ct_zret hx hb hr hlocks (by decide) (by rw [← he]; rfl) (by rw [← he]; exact hP) hS dX3_moveReadsToWriteStamp_54
      · exact absurd (show (16 : Int32) ≤ nI i from nI_le (a := 16) (by omega) (by omega)) c_1
    | succ n ih =>
      intro i hi y C hy hC he H locs hP hS ls hl
      refine lv_iload hx hb dX3_moveReadsToWriteStamp_11 (lv_at hl 0 rfl) ?_
      refine lv_iload_n hx hb dX3_moveReadsToWriteStamp_13 rfl (lv_at hl 1 rfl) ?_
      refine lv_icmp_ge (tgt := 53) hx hb dX3_moveReadsToWriteStamp_14 (by decide) (fun c_1 => ?_) (fun c_1 => ?_)
      · exact absurd c_1 (nI_ge (b := 16) (by omega) (by decide))
      · have hi16 : i < 16 := by omega
        refine lv_aload_n hx hb dX3_moveReadsToWriteStamp_17 rfl (lv_at hl 2 rfl) ?_
        refine lv_iload hx hb dX3_moveReadsToWriteStamp_18 (lv_at hl 0 rfl) ?_
        refine va_aldq hx hb G.2.2.2.2.1 hP 2 4 (hc_at_top (by decide)) rfl (hs_in (k := i) (n := 16) (nI_clamp (by omega)) (hs_inN (by omega) (by decide))) dX3_moveReadsToWriteStamp_20 ?_
        rw [show Int32.toNatClampNeg (nI i) = i from nI_clamp (by omega)]
        show W _ _ _ _ _ _ _ _ _ _ _ _ _ _ _ (F0 m (20 + 1) ls (.ref (ad (9 + i)) :: []))
        refine lv_astore (lv' := [(5, .ref (ad (9 + i))), (4, .int (nI i)), (3, .int (16)), (2, .ref (ad 2)), (0, .ref (ad 0)), (1, .ref (ad (57 + t)))]) hx hb dX3_moveReadsToWriteStamp_21 hl (by decide) rfl (fun ls hl => ?_)
        refine lv_aload_n hx hb dX3_moveReadsToWriteStamp_23 rfl (lv_at hl 5 rfl) ?_
        refine hc_g_txn G (in_X3_moveReadsToWriteStamp_X2) hP (ht) 7 (by decide) (by decide +kernel) (.int (hs_mask (HM.se (y) (t)))) rfl rfl dX3_moveReadsToWriteStamp_24 ?_
        refine lv_aload hx hb dX3_moveReadsToWriteStamp_27 (lv_at hl 0 rfl) ?_
        refine hc_g_keyn G (in_X3_moveReadsToWriteStamp_X0) hP (hi16) 0 (by decide) (by decide +kernel) (.int (hs_bit (i))) rfl rfl dX3_moveReadsToWriteStamp_29 ?_
        refine lv_iand hx hb dX3_moveReadsToWriteStamp_32 ?_
        refine lv_if_eq (tgt := 47) hx hb dX3_moveReadsToWriteStamp_33 (by decide) (fun c_2 => ?_) (fun c_2 => ?_)
        · have hse : y.se t i = false := (hs_mask_and _ hi16).mp c_2
          refine lv_iinc (v := nI (i + 1)) (lv' := [(4, .int (nI (i + 1))), (5, .ref (ad (9 + i))), (3, .int (16)), (2, .ref (ad 2)), (0, .ref (ad 0)), (1, .ref (ad (57 + t)))]) hx hb dX3_moveReadsToWriteStamp_47 hl (k := 1) rfl (nI_1 i) (by decide) rfl (fun ls hl => ?_)
          refine lv_goto (tgt := 11) hx hb dX3_moveReadsToWriteStamp_50 (by decide) ?_
          exact ih (i + 1) (by omega) y C hy (by omega) (by rw [← he, hs_mrs_succ, if_neg (by rw [hse]; decide)]) H locs hP hS ls (lv_sub hl [0, 2, 3, 4, 5] rfl)
        · have hse : y.se t i = true := eq_true_of_ne_false (fun q => c_2 ((hs_mask_and _ hi16).mpr q))
          refine lv_aload_n hx hb dX3_moveReadsToWriteStamp_36 rfl (lv_at hl 5 rfl) ?_
          refine lv_aload hx hb dX3_moveReadsToWriteStamp_37 (lv_at hl 0 rfl) ?_
          refine hs_callS (n := 2) (As := [.ref (ad (57 + t)), .ref (ad (9 + i))]) (rest := []) G hml (c_moveRead l D cy ad ho (y) _ (hy) (by omega) (ht) (hi16)) gX3_moveReadsToWriteStamp_X3_moveReadToWriteStamp rfl rfl rfl (by decide +kernel) ⟨Nat.le_of_ble_eq_true rfl, Nat.le_of_ble_eq_true rfl⟩ rfl hl.1 (Nat.le_of_ble_eq_true rfl) ⟨Nat.zero_le _, Nat.zero_le _⟩ hP hS (fun _ h => h) rfl dX3_moveReadsToWriteStamp_39 (fun H locs hP hS _ _ => ?_)
          refine lv_if_ne (tgt := 47) hx hb dX3_moveReadsToWriteStamp_42 (by decide) (fun c_3 => ?_) (fun c_3 => ?_)
          · have hmc : y.mrC t i = false := by
              cases hq : y.mrC t i with
              | false => rfl
              | true => rw [hq] at c_3; exact absurd rfl c_3
            refine lv_iinc (v := nI (i + 1)) (lv' := [(4, .int (nI (i + 1))), (5, .ref (ad (9 + i))), (3, .int (16)), (2, .ref (ad 2)), (0, .ref (ad 0)), (1, .ref (ad (57 + t)))]) hx hb dX3_moveReadsToWriteStamp_47 hl (k := 1) rfl (nI_1 i) (by decide) rfl (fun ls hl => ?_)
            refine lv_goto (tgt := 11) hx hb dX3_moveReadsToWriteStamp_50 (by decide) ?_
            exact ih (i + 1) (by omega) (y.mrM t i) (C + 5) (hy.mrM (by omega) ht hi16) (by omega) (by rw [← he, hs_mrs_succ, if_pos hse, if_neg (by rw [hmc]; decide)]) H locs hP hS ls (lv_sub hl [0, 2, 3, 4, 5] rfl)
          · have hmc : y.mrC t i = true := by
              cases hq : y.mrC t i with
              | true => rfl
              | false => rw [hq] at c_3; exact absurd c_3 (by decide)
            refine lv_iconst (v := 0) hx hb dX3_moveReadsToWriteStamp_45 (by decide) ?_
            have he2 : hs_mrs t 16 0 x = (y.mrM t i, false) := by rw [← he, hs_mrs_succ, if_pos hse, if_pos hmc]
            exact ct_zret hx hb hr hlocks (by decide) (by rw [he2]; rfl) (by rw [he2]; exact hP) hS dX3_moveReadsToWriteStamp_46
  refine lv_aload_n hx hb dX3_moveReadsToWriteStamp_0 rfl (lv_at hl 0 rfl) ?_
  refine hc_g_store G (in_X3_moveReadsToWriteStamp_X3) hP 1 (by decide) (by decide +kernel) (.ref (ad 2)) rfl rfl dX3_moveReadsToWriteStamp_1 ?_
  refine lv_astore_n (lv' := [(2, .ref (ad 2)), (0, .ref (ad 0)), (1, .ref (ad (57 + t)))]) hx hb dX3_moveReadsToWriteStamp_4 rfl hl (by decide) rfl (fun ls hl => ?_)
  refine lv_aload_n hx hb dX3_moveReadsToWriteStamp_5 rfl (lv_at hl 0 rfl) ?_
  refine va_alen hx hb G.2.2.2.2.1 hP 2 4 (hc_at_top (by decide)) rfl (v := 16) rfl dX3_moveReadsToWriteStamp_6 ?_
  refine lv_istore_n (lv' := [(3, .int (16)), (2, .ref (ad 2)), (0, .ref (ad 0)), (1, .ref (ad (57 + t)))]) hx hb dX3_moveReadsToWriteStamp_7 rfl hl (by decide) rfl (fun ls hl => ?_)
  refine lv_iconst (v := 0) hx hb dX3_moveReadsToWriteStamp_8 (by decide) ?_
  refine lv_istore (lv' := [(4, .int (0)), (3, .int (16)), (2, .ref (ad 2)), (0, .ref (ad 0)), (1, .ref (ad (57 + t)))]) hx hb dX3_moveReadsToWriteStamp_9 hl (by decide) rfl (fun ls hl => ?_)
  exact loop 16 0 rfl x B hIn (by omega) rfl s.heap [] hP hS ls (lv_sub hl [0, 1, 2, 3, 4] rfl)

theorem in_X4_read_X4 : ∀ w ∈ u_ws RX4 TX4 21, w ∈ wsX4_read := by decide +kernel
set_option maxHeartbeats 4000000 in
set_option maxRecDepth 100000 in
/-- reference: r_read -/
theorem r_read (l : Launch) (D : va_G) (cy : Nat → ClassId) (bd : Nat → Nat) (ho : hm_ok bd) (x : HM) (B : Int) (hIn : x.In B) (hB : B + 200 < 4611686018427387904) (hph : hs_Ph x) (hbi : ∀ t, t < 8 → x.bi t < 2 ^ 31) (z w : Int32) : Ct l yX4_read wsX4_read ({ frames := 2, cells := 0, slots := 0, locals := 51 }) D cy (hm_A bd) [.ref (bd 0), .int (z), .int (w)] (hm_mem bd cy (x)) (some (.long (x.readA z w))) (hm_mem bd cy (x.readM z w)) := by
  rcases hs_rng z (b := 8) (by decide) with hz | ⟨t, ht, rfl⟩
  · refine ct_of (cc := cX4_read) (maxL := 11) (ret := (some .long)) rfl (by decide) (Nat.le_of_ble_eq_true rfl) ?_
    intro p e s m below meth c ls G hx hb hml hr hlocks hP hS hl
    have hD := hm_D ho cy (x)
    have hl : lv_has ls 11 [(0, .ref (bd 0)), (1, .int (z)), (2, .int (w))] := hl
    refine lv_iload_n hx hb dX4_read_0 rfl (lv_at hl 1 rfl) ?_
    refine lv_if_lt (tgt := 20) hx hb dX4_read_1 (by decide) (fun c_1 => ?_) (fun c_1 => ?_)
    · refine lv_ldc2 (v := 4294967295) hx hb G.2.2.2.1 (G.2.2.1 (.constantLong RX4 95 4294967295) (by decide +kernel)) dX4_read_20 ?_
      exact ct_lret hx hb hr hlocks (by rw [HM.readA, hs_n_out hz]) (by rw [HM.readM, hs_n_out hz]; exact hP) hS dX4_read_23
    · refine lv_iload_n hx hb dX4_read_4 rfl (lv_at hl 1 rfl) ?_
      refine lv_bipush (v := 7) hx hb dX4_read_5 (by decide) ?_
      refine lv_icmp_gt (tgt := 20) hx hb dX4_read_7 (by decide) (fun c_2 => ?_) (fun c_2 => ?_)
      · refine lv_ldc2 (v := 4294967295) hx hb G.2.2.2.1 (G.2.2.1 (.constantLong RX4 95 4294967295) (by decide +kernel)) dX4_read_20 ?_
        exact ct_lret hx hb hr hlocks (by rw [HM.readA, hs_n_out hz]) (by rw [HM.readM, hs_n_out hz]; exact hP) hS dX4_read_23
      · exact absurd (hs_gt_of hz c_1 (by decide)) c_2
  · have eT := hs_n_in ht (show 8 < 2 ^ 31 by decide)
    rcases hs_rng w (b := 16) (by decide) with hw | ⟨k, hk, rfl⟩
    · refine ct_of (cc := cX4_read) (maxL := 11) (ret := (some .long)) rfl (by decide) (Nat.le_of_ble_eq_true rfl) ?_
      intro p e s m below meth c ls G hx hb hml hr hlocks hP hS hl
      have hD := hm_D ho cy (x)
      have hl : lv_has ls 11 [(0, .ref (bd 0)), (1, .int (nI t)), (2, .int (w))] := hl
      refine lv_iload_n hx hb dX4_read_0 rfl (lv_at hl 1 rfl) ?_
      refine lv_if_lt (tgt := 20) hx hb dX4_read_1 (by decide) (fun c_1 => ?_) (fun c_1 => ?_)
      · exact absurd c_1 (nI_pos (by omega))
      · refine lv_iload_n hx hb dX4_read_4 rfl (lv_at hl 1 rfl) ?_
        refine lv_bipush (v := 7) hx hb dX4_read_5 (by decide) ?_
        refine lv_icmp_gt (tgt := 20) hx hb dX4_read_7 (by decide) (fun c_2 => ?_) (fun c_2 => ?_)
        · exact absurd c_2 (hs_le_in ht (by decide))
        · refine lv_iload_n hx hb dX4_read_10 rfl (lv_at hl 2 rfl) ?_
          refine lv_if_lt (tgt := 20) hx hb dX4_read_11 (by decide) (fun c_3 => ?_) (fun c_3 => ?_)
          · refine lv_ldc2 (v := 4294967295) hx hb G.2.2.2.1 (G.2.2.1 (.constantLong RX4 95 4294967295) (by decide +kernel)) dX4_read_20 ?_
            exact ct_lret hx hb hr hlocks (by rw [HM.readA, eT, hs_n_out hw]) (by rw [HM.readM, eT, hs_n_out hw]; exact hP) hS dX4_read_23
          · refine lv_iload_n hx hb dX4_read_14 rfl (lv_at hl 2 rfl) ?_
            refine lv_bipush (v := 15) hx hb dX4_read_15 (by decide) ?_
            refine lv_icmp_le (tgt := 24) hx hb dX4_read_17 (by decide) (fun c_4 => ?_) (fun c_4 => ?_)
            · exact absurd c_4 (Int32.not_le.mpr (hs_gt_of hw c_3 (by decide)))
            · refine lv_ldc2 (v := 4294967295) hx hb G.2.2.2.1 (G.2.2.1 (.constantLong RX4 95 4294967295) (by decide +kernel)) dX4_read_20 ?_
              exact ct_lret hx hb hr hlocks (by rw [HM.readA, eT, hs_n_out hw]) (by rw [HM.readM, eT, hs_n_out hw]; exact hP) hS dX4_read_23
    · have eK := hs_n_in hk (show 16 < 2 ^ 31 by decide)
      have eA : x.readA (nI t) (nI k) = if x.stc t = 0 then ((x.stp t).opn t k).rdA t k else 4294967296 + Int32.toInt64 (x.stc t) := by rw [HM.readA, eT, eK]
      have eM : x.readM (nI t) (nI k) = if x.stc t = 0 then (((x.stp t).opn t k).rdM t k).cls t k else x.stp t := by rw [HM.readM, eT, eK]
      have sA : x.stopA (nI t) = x.stc t := by rw [HM.stopA, eT]
      have sM : x.stopM (nI t) = x.stp t := by rw [HM.stopM, eT]
      have hI0 := hIn.stp t
      have hg0 := hI0.gt ht
      have hI1 := hI0.ev (by omega) hg0
      have hI2 := hI0.opn (k := k) (by omega) ht
      have hm4 : k % 4 < 4 := Nat.mod_lt _ (by decide)
      refine ct_of (cc := cX4_read) (maxL := 11) (ret := (some .long)) rfl (by decide) (Nat.le_of_ble_eq_true rfl) ?_
      intro p e s m below meth c ls G hx hb hml hr hlocks hP hS hl
      have hD := hm_D ho cy (x)
      have hl : lv_has ls 11 [(0, .ref (bd 0)), (1, .int (nI t)), (2, .int (nI k))] := hl
      have J73 : ∀ (y : HM) (g : Nat), y.In (B + 2) → y.gt t = g → g < 4 → (∀ j, j < 8 → y.bi j < 2 ^ 31) → x.readA (nI t) (nI k) = y.rdA t k → x.readM (nI t) (nI k) = (y.rdM t k).cls t k → ∀ (H : Heap) (locs : List Loc), va_P D vwCl (hm_mem bd cy y) H → va_S (hm_A bd) s.heap H locs → ∀ ls : Array Slot, lv_has ls 11 [(0, .ref (bd 0)), (1, .int (nI t)), (2, .int (nI k)), (4, .int (nI g)), (5, .int (nI (k % 4)))] → W p l e ({ frames := 2, cells := 0, slots := 0, locals := 51 }) s m [.ref (bd 0), .int (nI t), .int (nI k)].toArray below meth c H locs 0 0 (MQ below (hs_Post D (some (.long (x.readA (nI t) (nI k)))) (hm_mem bd cy (x.readM (nI t) (nI k))) (hm_A bd)) [.ref (bd 0), .int (nI t), .int (nI k)].toArray s 0 0 (hm_A bd)) (F0 m 73 ls []) := by
        intro y g hIy hgy hg4 hby hA hM H locs hP hS ls hl
        have hD := hm_D ho cy y
        have hIl := hIy.look (t := t) (by omega) hk
        have JE : ∀ (H : Heap) (locs : List Loc), va_P D vwCl (hm_mem bd cy (y.rdM t k)) H → va_S (hm_A bd) s.heap H locs → ∀ ls : Array Slot, lv_has ls 11 [(0, .ref (bd 0)), (4, .int (nI g)), (5, .int (nI (k % 4))), (6, .long (HM.rdA y t k))] → W p l e ({ frames := 2, cells := 0, slots := 0, locals := 51 }) s m [.ref (bd 0), .int (nI t), .int (nI k)].toArray below meth c H locs 0 0 (MQ below (hs_Post D (some (.long (x.readA (nI t) (nI k)))) (hm_mem bd cy (x.readM (nI t) (nI k))) (hm_A bd)) [.ref (bd 0), .int (nI t), .int (nI k)].toArray s 0 0 (hm_A bd)) (F0 m 258 ls []) := by
          intro H locs hP hS ls hl
          have hD := hm_D ho cy (y.rdM t k)
          refine lv_aload_n hx hb dX4_read_258 rfl (lv_at hl 0 rfl) ?_
          refine lv_iload hx hb dX4_read_259 (lv_at hl 1 rfl) ?_
          refine lv_aload_n hx hb dX4_read_261 rfl (lv_at hl 0 rfl) ?_
          refine hm_gf G in_X4_read_X4 hP rfl 1 (by decide) (by decide +kernel) (.ref (bd 2)) rfl rfl dX4_read_262 ?_
          refine lv_iload hx hb dX4_read_265 (lv_at hl 2 rfl) ?_
          refine hm_lL G hP 2 (HM.ck (y.rdM t k)) 4 rfl (k % 4) (nI_clamp (by omega)) (hs_inN (by omega) (by decide)) (HM.ck (y.rdM t k) (k % 4)) rfl dX4_read_267 ?_
          refine hs_callV (n := 2) (As := [.int (nI g), .long (HM.ck (y.rdM t k) (k % 4))]) (rest := []) G hml (r_receive l D cy bd ho (y.rdM t k) (show g < 4 by first | omega | exact hi) (HM.ck (y.rdM t k) (k % 4))) gX4_read_X4_receive rfl rfl rfl (by decide +kernel) ⟨Nat.le_of_ble_eq_true rfl, Nat.le_of_ble_eq_true rfl⟩ (q0 := 0) (ci := 4) (fs := hm_objL bd (y.rdM t k)) rfl rfl rfl rfl hl.1 (Nat.le_of_ble_eq_true rfl) ⟨Nat.zero_le _, Nat.zero_le _⟩ hP hS (fun _ h => h) rfl dX4_read_268 (fun H locs hP hS _ _ => ?_)
          have hD := hm_D ho cy (HM.tk (y.rdM t k) (g) (HM.ck (y.rdM t k) (k % 4)))
          refine lv_lload hx hb dX4_read_271 (lv_at hl 3 rfl) ?_
          exact ct_lret hx hb hr hlocks (by rw [hA]) (by rw [hM, HM.cls, hs_rdM_gt, hgy]; exact hP) hS dX4_read_273
        by_cases he : y.hd k = some t
        · refine lv_aload_n hx hb dX4_read_73 rfl (lv_at hl 0 rfl) ?_
          refine hm_gf G in_X4_read_X4 hP rfl 15 (by decide) (by decide +kernel) (.ref (bd 14)) rfl rfl dX4_read_74 ?_
          refine lv_iload_n hx hb dX4_read_77 rfl (lv_at hl 2 rfl) ?_
          refine hm_lI G hP 14 (hm_hd (y)) 16 rfl (k) (nI_clamp (by omega)) (hs_inN (by omega) (by decide)) (hm_ho (HM.hd (y) (k))) rfl dX4_read_78 ?_
          refine lv_iload_n hx hb dX4_read_79 rfl (lv_at hl 1 rfl) ?_
          refine lv_iconst (v := 1) hx hb dX4_read_80 (by decide) ?_
          refine lv_iadd hx hb dX4_read_81 ?_
          rw [show ((nI t + 1)) = nI (t + 1) from nI_1 t]
          refine lv_icmp_ne (tgt := 97) hx hb dX4_read_82 (by decide) (fun c_1 => ?_) (fun c_1 => ?_)
          · exact absurd he (fun q => c_1 ((hm_ho_eq ht (hIy.hd hk)).mpr q))
          · refine lv_aload_n hx hb dX4_read_85 rfl (lv_at hl 0 rfl) ?_
            refine hm_gf G in_X4_read_X4 hP rfl 16 (by decide) (by decide +kernel) (.ref (bd 15)) rfl rfl dX4_read_86 ?_
            refine lv_iload_n hx hb dX4_read_89 rfl (lv_at hl 2 rfl) ?_
            refine hm_lI G hP 15 (HM.pl (y)) 16 rfl (k) (nI_clamp (by omega)) (hs_inN (by omega) (by decide)) (HM.pl (y) (k)) rfl dX4_read_90 ?_
            refine lv_i2l (v := (Int32.toInt64 (HM.pl (y) (k)))) hx hb dX4_read_91 rfl ?_
            refine lv_lstore (lv' := [(6, .long ((Int32.toInt64 (HM.pl (y) (k))))), (0, .ref (bd 0)), (1, .int (nI t)), (2, .int (nI k)), (4, .int (nI g)), (5, .int (nI (k % 4)))]) hx hb dX4_read_92 hl (by decide) rfl (fun ls hl => ?_)
            refine lv_goto (tgt := 258) hx hb dX4_read_94 (by decide) ?_
            have e1 : y.rdA t k = Int32.toInt64 (y.pl k) := if_pos he
            have e2 : y.rdM t k = y := if_pos he
            rw [e1, e2] at JE
            exact JE H locs hP hS ls (lv_sub hl [1, 4, 5, 0] rfl)
        · have e1 : y.rdA t k = (y.lpR t k).rdY t k := if_neg he
          have e2 : y.rdM t k = (y.lpR t k).rdX t k := if_neg he
          rw [e1, e2] at JE
          have hI3 := hIy.lpR (by omega) ht hk
          generalize hz : y.lpR t k = q at hI3 JE
          have J141 : ∀ (H : Heap) (locs : List Loc), va_P D vwCl (hm_mem bd cy (q)) H → va_S (hm_A bd) s.heap H locs → ∀ ls : Array Slot, lv_has ls 11 [(0, .ref (bd 0)), (1, .int (nI t)), (2, .int (nI k)), (4, .int (nI g)), (5, .int (nI (k % 4)))] → W p l e ({ frames := 2, cells := 0, slots := 0, locals := 51 }) s m [.ref (bd 0), .int (nI t), .int (nI k)].toArray below meth c H locs 0 0 (MQ below (hs_Post D (some (.long (x.readA (nI t) (nI k)))) (hm_mem bd cy (x.readM (nI t) (nI k))) (hm_A bd)) [.ref (bd 0), .int (nI t), .int (nI k)].toArray s 0 0 (hm_A bd)) (F0 m 141 ls []) := by
            intro H locs hP hS ls hl
            have hD := hm_D ho cy (q)
            have hbf := hI3.best_fi (q.rs t) (q.lm t) hk
            have hlen := hI3.len
            refine lv_aload_n hx hb dX4_read_141 rfl (lv_at hl 0 rfl) ?_
            refine lv_iload_n hx hb dX4_read_142 rfl (lv_at hl 2 rfl) ?_
            refine lv_aload_n hx hb dX4_read_143 rfl (lv_at hl 0 rfl) ?_
            refine hm_gf G in_X4_read_X4 hP rfl 6 (by decide) (by decide +kernel) (.ref (bd 7)) rfl rfl dX4_read_144 ?_
            refine lv_iload_n hx hb dX4_read_147 rfl (lv_at hl 1 rfl) ?_
            refine hm_lL G hP 7 (HM.rs (q)) 8 rfl (t) (nI_clamp (by omega)) (hs_inN (by omega) (by decide)) (HM.rs (q) (t)) rfl dX4_read_148 ?_
            refine lv_aload_n hx hb dX4_read_149 rfl (lv_at hl 0 rfl) ?_
            refine hm_gf G in_X4_read_X4 hP rfl 8 (by decide) (by decide +kernel) (.ref (bd 9)) rfl rfl dX4_read_150 ?_
            refine lv_iload_n hx hb dX4_read_153 rfl (lv_at hl 1 rfl) ?_
            refine hm_lL G hP 9 (HM.lm (q)) 8 rfl (t) (nI_clamp (by omega)) (hs_inN (by omega) (by decide)) (HM.lm (q) (t)) rfl dX4_read_154 ?_
            refine hs_callV (n := 3) (As := [.int (nI k), .long (HM.rs (q) (t)), .long (HM.lm (q) (t))]) (rest := []) G hml (r_find l D cy bd ho (q) (hI3.len) (hk) (HM.rs (q) (t)) (HM.lm (q) (t))) gX4_read_X4_find rfl rfl rfl (by decide +kernel) ⟨Nat.le_of_ble_eq_true rfl, Nat.le_of_ble_eq_true rfl⟩ (q0 := 0) (ci := 4) (fs := hm_objL bd (q)) rfl rfl rfl rfl hl.1 (Nat.le_of_ble_eq_true rfl) ⟨Nat.zero_le _, Nat.zero_le _⟩ hP hS (fun _ h => h) rfl dX4_read_155 (fun H locs hP hS _ _ => ?_)
            refine lv_istore (lv' := [(9, .int (hs_ix (hs_fi (hm_vk (q)) (hm_va (q)) (nI k) (HM.rs (q) (t)) (HM.lm (q) (t)) (HM.vs (q)).length))), (0, .ref (bd 0)), (1, .int (nI t)), (2, .int (nI k)), (4, .int (nI g)), (5, .int (nI (k % 4)))]) hx hb dX4_read_158 hl (by decide) rfl (fun ls hl => ?_)
            refine lv_iload hx hb dX4_read_160 (lv_at hl 0 rfl) ?_
            refine lv_if_lt (tgt := 185) hx hb dX4_read_162 (by decide) (fun c_1 => ?_) (fun c_1 => ?_)
            · have h_j : hs_fi (hm_vk (q)) (hm_va (q)) (nI k) (HM.rs (q) (t)) (HM.lm (q) (t)) (HM.vs (q)).length = none := (hs_ix_neg (fun u q => by have := (hs_fi_lt q).1; omega)).mp c_1
              refine lv_aload_n hx hb dX4_read_185 rfl (lv_at hl 1 rfl) ?_
              refine hm_gf G in_X4_read_X4 hP rfl 14 (by decide) (by decide +kernel) (.ref (bd 13)) rfl rfl dX4_read_186 ?_
              refine lv_iload_n hx hb dX4_read_189 rfl (lv_at hl 3 rfl) ?_
              refine hm_lL G hP 13 (HM.lr (q)) 16 rfl (k) (nI_clamp (by omega)) (hs_inN (by omega) (by decide)) (HM.lr (q) (k)) rfl dX4_read_190 ?_
              refine lv_aload_n hx hb dX4_read_191 rfl (lv_at hl 1 rfl) ?_
              refine hm_gf G in_X4_read_X4 hP rfl 6 (by decide) (by decide +kernel) (.ref (bd 7)) rfl rfl dX4_read_192 ?_
              refine lv_iload_n hx hb dX4_read_195 rfl (lv_at hl 2 rfl) ?_
              refine hm_lL G hP 7 (HM.rs (q)) 8 rfl (t) (nI_clamp (by omega)) (hs_inN (by omega) (by decide)) (HM.rs (q) (t)) rfl dX4_read_196 ?_
              refine hs_lge (x := HM.lr (q) (k)) (y := HM.rs (q) (t)) (tgt := 213) hx hb dX4_read_197 dX4_read_198 (by decide) (fun c_2 => ?_) (fun c_2 => ?_)
              · have hP : va_P D vwCl (hm_mem bd cy (q.mk k (q.rs t))) H := by rw [← hs_mk_neg q c_2]; exact hP
                have hD := hm_D ho cy (q.mk k (q.rs t))
                refine lv_aload_n hx hb dX4_read_213 rfl (lv_at hl 1 rfl) ?_
                refine hm_gf G in_X4_read_X4 hP rfl 10 (by decide) (by decide +kernel) (.ref (bd 11)) rfl rfl dX4_read_214 ?_
                refine lv_iload_n hx hb dX4_read_217 rfl (lv_at hl 2 rfl) ?_
                refine lv_bipush (v := 16) hx hb dX4_read_218 (by decide) ?_
                refine lv_imul hx hb dX4_read_220 ?_
                refine lv_iload_n hx hb dX4_read_221 rfl (lv_at hl 3 rfl) ?_
                refine lv_iadd hx hb dX4_read_222 ?_
                rw [show (((nI t * 16) + nI k)) = nI (t * 16 + k) from by rw [show (16 : Int32) = nI 16 from rfl, pk_mul, nI_add]]
                refine lv_iconst (v := 1) hx hb dX4_read_223 (by decide) ?_
                refine hm_sZ G hP hD hS 11 (hm_se (HM.mk q k (HM.rs q t))) 128 rfl (t * 16 + k) (nI_clamp (by omega)) (hs_inN (by omega) (by decide)) (by decide) (hm_mem bd cy (HM.u_se (HM.mk q k (HM.rs q t)) t (va_up (HM.se (HM.mk q k (HM.rs q t)) t) k true))) (hm_s_seT hk) dX4_read_224 (fun H locs hP hD hS => ?_)
                have hP : va_P D vwCl (hm_mem bd cy (q.rdN t k)) H := hP
                have hD := hm_D ho cy (q.rdN t k)
                have hI4 : (q.rdN t k).In (B + 2 + 3) := (hI3.mk hk (hI3.rs ht)).u_se t _
                have hbf2 := hI4.best_fi 0 ((q.rdN t k).rs t) hk
                have hb0 := hI4.best0 ((q.rdN t k).rs t) k
                have hlen4 : (HM.vs (HM.rdN q t k)).length ≤ 256 := hI4.len
                refine lv_aload_n hx hb dX4_read_225 rfl (lv_at hl 1 rfl) ?_
                refine lv_iload_n hx hb dX4_read_226 rfl (lv_at hl 3 rfl) ?_
                refine lv_lconst (v := 0) hx hb dX4_read_227 (by decide) ?_
                refine lv_aload_n hx hb dX4_read_228 rfl (lv_at hl 1 rfl) ?_
                refine hm_gf G in_X4_read_X4 hP rfl 6 (by decide) (by decide +kernel) (.ref (bd 7)) rfl rfl dX4_read_229 ?_
                refine lv_iload_n hx hb dX4_read_232 rfl (lv_at hl 2 rfl) ?_
                refine hm_lL G hP 7 (HM.rs (HM.rdN q t k)) 8 rfl (t) (nI_clamp (by omega)) (hs_inN (by omega) (by decide)) (HM.rs (HM.rdN q t k) (t)) rfl dX4_read_233 ?_
                refine hs_callV (n := 3) (As := [.int (nI k), .long (0), .long (HM.rs (HM.rdN q t k) (t))]) (rest := []) G hml (r_find l D cy bd ho (HM.rdN q t k) (hI4.len) (hk) (0) (HM.rs (HM.rdN q t k) (t))) gX4_read_X4_find rfl rfl rfl (by decide +kernel) ⟨Nat.le_of_ble_eq_true rfl, Nat.le_of_ble_eq_true rfl⟩ (q0 := 0) (ci := 4) (fs := hm_objL bd (HM.rdN q t k)) rfl rfl rfl rfl hl.1 (Nat.le_of_ble_eq_true rfl) ⟨Nat.zero_le _, Nat.zero_le _⟩ hP hS (fun _ h => h) rfl dX4_read_234 (fun H locs hP hS _ _ => ?_)
                refine lv_istore (lv' := [(10, .int (hs_ix (hs_fi (hm_vk (HM.rdN q t k)) (hm_va (HM.rdN q t k)) (nI k) (0) (HM.rs (HM.rdN q t k) (t)) (HM.vs (HM.rdN q t k)).length))), (9, .int (hs_ix (hs_fi (hm_vk (q)) (hm_va (q)) (nI k) (HM.rs (q) (t)) (HM.lm (q) (t)) (HM.vs (q)).length))), (0, .ref (bd 0)), (1, .int (nI t)), (2, .int (nI k)), (4, .int (nI g)), (5, .int (nI (k % 4)))]) hx hb dX4_read_237 hl (by decide) rfl (fun ls hl => ?_)
                refine lv_iload hx hb dX4_read_239 (lv_at hl 0 rfl) ?_
                refine lv_if_ge (tgt := 248) hx hb dX4_read_241 (by decide) (fun c_3 => ?_) (fun c_3 => ?_)
                · obtain ⟨i, h_i⟩ : ∃ i, hs_fi (hm_vk (HM.rdN q t k)) (hm_va (HM.rdN q t k)) (nI k) (0) (HM.rs (HM.rdN q t k) (t)) (HM.vs (HM.rdN q t k)).length = some i := Option.ne_none_iff_exists'.mp (fun q => Int32.not_le.mpr ((hs_ix_neg (fun u q => by have := (hs_fi_lt q).1; omega)).mpr q) c_3)
                  have hl_i := (hs_fi_lt h_i).1
                  have hx_i : hs_ix (hs_fi (hm_vk (HM.rdN q t k)) (hm_va (HM.rdN q t k)) (nI k) (0) (HM.rs (HM.rdN q t k) (t)) (HM.vs (HM.rdN q t k)).length) = nI i := by rw [h_i]; rfl
                  refine lv_aload_n hx hb dX4_read_248 rfl (lv_at hl 2 rfl) ?_
                  refine hm_gf G in_X4_read_X4 hP rfl 20 (by decide) (by decide +kernel) (.ref (bd 18)) rfl rfl dX4_read_249 ?_
                  refine lv_iload hx hb dX4_read_252 (lv_at hl 0 rfl) ?_
                  refine hm_lI G hP 18 (hm_vv (HM.rdN q t k)) 256 rfl (i) (by rw [hx_i]; exact nI_clamp (by omega)) (by rw [hx_i]; exact hs_inN (by omega) (by decide)) (hm_vv (HM.rdN q t k) (i)) rfl dX4_read_254 ?_
                  refine lv_i2l (v := (Int32.toInt64 (hm_vv (HM.rdN q t k) (i)))) hx hb dX4_read_255 rfl ?_
                  refine lv_lstore (lv' := [(6, .long ((Int32.toInt64 (hm_vv (HM.rdN q t k) (i))))), (10, .int (hs_ix (hs_fi (hm_vk (HM.rdN q t k)) (hm_va (HM.rdN q t k)) (nI k) (0) (HM.rs (HM.rdN q t k) (t)) (HM.vs (HM.rdN q t k)).length))), (9, .int (hs_ix (hs_fi (hm_vk (q)) (hm_va (q)) (nI k) (HM.rs (q) (t)) (HM.lm (q) (t)) (HM.vs (q)).length))), (0, .ref (bd 0)), (1, .int (nI t)), (2, .int (nI k)), (4, .int (nI g)), (5, .int (nI (k % 4)))]) hx hb dX4_read_256 hl (by decide) rfl (fun ls hl => ?_)
                  have hb1 : hs_best (q.rs t) (q.lm t) (q.vk k) = none := by rw [hbf, h_j]; rfl
                  have e3 : q.rdX t k = q.rdN t k := by rw [HM.rdX, hb1]
                  have e4 : q.rdY t k = Int32.toInt64 (hs_gv (hs_best (-1) (q.rs t) (q.vk k))) := by rw [HM.rdY, hb1]
                  have e5 : hs_best (-1) (q.rs t) (q.vk k) = some ((q.rdN t k).vs.getD i (0, 0, 0)).2 := by have h := hb0.symm.trans hbf2; rw [h_i] at h; exact h
                  rw [e3, e4, e5] at JE
                  exact JE H locs hP hS ls (lv_sub hl [3, 6, 7, 0] rfl)
                · have h_i : hs_fi (hm_vk (HM.rdN q t k)) (hm_va (HM.rdN q t k)) (nI k) (0) (HM.rs (HM.rdN q t k) (t)) (HM.vs (HM.rdN q t k)).length = none := (hs_ix_neg (fun u q => by have := (hs_fi_lt q).1; omega)).mp (Int32.not_le.mp c_3)
                  refine lv_lconst (v := 0) hx hb dX4_read_244 (by decide) ?_
                  refine lv_goto (tgt := 256) hx hb dX4_read_245 (by decide) ?_
                  refine lv_lstore (lv' := [(6, .long (0)), (10, .int (hs_ix (hs_fi (hm_vk (HM.rdN q t k)) (hm_va (HM.rdN q t k)) (nI k) (0) (HM.rs (HM.rdN q t k) (t)) (HM.vs (HM.rdN q t k)).length))), (9, .int (hs_ix (hs_fi (hm_vk (q)) (hm_va (q)) (nI k) (HM.rs (q) (t)) (HM.lm (q) (t)) (HM.vs (q)).length))), (0, .ref (bd 0)), (1, .int (nI t)), (2, .int (nI k)), (4, .int (nI g)), (5, .int (nI (k % 4)))]) hx hb dX4_read_256 hl (by decide) rfl (fun ls hl => ?_)
                  have hb1 : hs_best (q.rs t) (q.lm t) (q.vk k) = none := by rw [hbf, h_j]; rfl
                  have e3 : q.rdX t k = q.rdN t k := by rw [HM.rdX, hb1]
                  have e4 : q.rdY t k = Int32.toInt64 (hs_gv (hs_best (-1) (q.rs t) (q.vk k))) := by rw [HM.rdY, hb1]
                  have e5 : hs_best (-1) (q.rs t) (q.vk k) = none := by have h := hb0.symm.trans hbf2; rw [h_i] at h; exact h
                  rw [e3, e4, e5] at JE
                  exact JE H locs hP hS ls (lv_sub hl [3, 6, 7, 0] rfl)
              · refine lv_aload_n hx hb dX4_read_201 rfl (lv_at hl 1 rfl) ?_
                refine hm_gf G in_X4_read_X4 hP rfl 14 (by decide) (by decide +kernel) (.ref (bd 13)) rfl rfl dX4_read_202 ?_
                refine lv_iload_n hx hb dX4_read_205 rfl (lv_at hl 3 rfl) ?_
                refine lv_aload_n hx hb dX4_read_206 rfl (lv_at hl 1 rfl) ?_
                refine hm_gf G in_X4_read_X4 hP rfl 6 (by decide) (by decide +kernel) (.ref (bd 7)) rfl rfl dX4_read_207 ?_
                refine lv_iload_n hx hb dX4_read_210 rfl (lv_at hl 2 rfl) ?_
                refine hm_lL G hP 7 (HM.rs (q)) 8 rfl (t) (nI_clamp (by omega)) (hs_inN (by omega) (by decide)) (HM.rs (q) (t)) rfl dX4_read_211 ?_
                refine hm_sL G hP hD hS 13 (HM.lr (q)) 16 rfl (k) (nI_clamp (by omega)) (hs_inN (by omega) (by decide)) (hm_mem bd cy (HM.u_lr (q) (k) (HM.rs (q) (t)))) hm_s_lr dX4_read_212 (fun H locs hP hD hS => ?_)
                have hP : va_P D vwCl (hm_mem bd cy (q.mk k (q.rs t))) H := by rw [← hs_mk_pos q c_2]; exact hP
                have hD := hm_D ho cy (q.mk k (q.rs t))
                refine lv_aload_n hx hb dX4_read_213 rfl (lv_at hl 1 rfl) ?_
                refine hm_gf G in_X4_read_X4 hP rfl 10 (by decide) (by decide +kernel) (.ref (bd 11)) rfl rfl dX4_read_214 ?_
                refine lv_iload_n hx hb dX4_read_217 rfl (lv_at hl 2 rfl) ?_
                refine lv_bipush (v := 16) hx hb dX4_read_218 (by decide) ?_
                refine lv_imul hx hb dX4_read_220 ?_
                refine lv_iload_n hx hb dX4_read_221 rfl (lv_at hl 3 rfl) ?_
                refine lv_iadd hx hb dX4_read_222 ?_
                rw [show (((nI t * 16) + nI k)) = nI (t * 16 + k) from by rw [show (16 : Int32) = nI 16 from rfl, pk_mul, nI_add]]
                refine lv_iconst (v := 1) hx hb dX4_read_223 (by decide) ?_
                refine hm_sZ G hP hD hS 11 (hm_se (HM.mk q k (HM.rs q t))) 128 rfl (t * 16 + k) (nI_clamp (by omega)) (hs_inN (by omega) (by decide)) (by decide) (hm_mem bd cy (HM.u_se (HM.mk q k (HM.rs q t)) t (va_up (HM.se (HM.mk q k (HM.rs q t)) t) k true))) (hm_s_seT hk) dX4_read_224 (fun H locs hP hD hS => ?_)
                have hP : va_P D vwCl (hm_mem bd cy (q.rdN t k)) H := hP
                have hD := hm_D ho cy (q.rdN t k)
                have hI4 : (q.rdN t k).In (B + 2 + 3) := (hI3.mk hk (hI3.rs ht)).u_se t _
                have hbf2 := hI4.best_fi 0 ((q.rdN t k).rs t) hk
                have hb0 := hI4.best0 ((q.rdN t k).rs t) k
                have hlen4 : (HM.vs (HM.rdN q t k)).length ≤ 256 := hI4.len
                refine lv_aload_n hx hb dX4_read_225 rfl (lv_at hl 1 rfl) ?_
                refine lv_iload_n hx hb dX4_read_226 rfl (lv_at hl 3 rfl) ?_
                refine lv_lconst (v := 0) hx hb dX4_read_227 (by decide) ?_
                refine lv_aload_n hx hb dX4_read_228 rfl (lv_at hl 1 rfl) ?_
                refine hm_gf G in_X4_read_X4 hP rfl 6 (by decide) (by decide +kernel) (.ref (bd 7)) rfl rfl dX4_read_229 ?_
                refine lv_iload_n hx hb dX4_read_232 rfl (lv_at hl 2 rfl) ?_
                refine hm_lL G hP 7 (HM.rs (HM.rdN q t k)) 8 rfl (t) (nI_clamp (by omega)) (hs_inN (by omega) (by decide)) (HM.rs (HM.rdN q t k) (t)) rfl dX4_read_233 ?_
                refine hs_callV (n := 3) (As := [.int (nI k), .long (0), .long (HM.rs (HM.rdN q t k) (t))]) (rest := []) G hml (r_find l D cy bd ho (HM.rdN q t k) (hI4.len) (hk) (0) (HM.rs (HM.rdN q t k) (t))) gX4_read_X4_find rfl rfl rfl (by decide +kernel) ⟨Nat.le_of_ble_eq_true rfl, Nat.le_of_ble_eq_true rfl⟩ (q0 := 0) (ci := 4) (fs := hm_objL bd (HM.rdN q t k)) rfl rfl rfl rfl hl.1 (Nat.le_of_ble_eq_true rfl) ⟨Nat.zero_le _, Nat.zero_le _⟩ hP hS (fun _ h => h) rfl dX4_read_234 (fun H locs hP hS _ _ => ?_)
                refine lv_istore (lv' := [(10, .int (hs_ix (hs_fi (hm_vk (HM.rdN q t k)) (hm_va (HM.rdN q t k)) (nI k) (0) (HM.rs (HM.rdN q t k) (t)) (HM.vs (HM.rdN q t k)).length))), (9, .int (hs_ix (hs_fi (hm_vk (q)) (hm_va (q)) (nI k) (HM.rs (q) (t)) (HM.lm (q) (t)) (HM.vs (q)).length))), (0, .ref (bd 0)), (1, .int (nI t)), (2, .int (nI k)), (4, .int (nI g)), (5, .int (nI (k % 4)))]) hx hb dX4_read_237 hl (by decide) rfl (fun ls hl => ?_)
                refine lv_iload hx hb dX4_read_239 (lv_at hl 0 rfl) ?_
                refine lv_if_ge (tgt := 248) hx hb dX4_read_241 (by decide) (fun c_4 => ?_) (fun c_4 => ?_)
                · obtain ⟨i, h_i⟩ : ∃ i, hs_fi (hm_vk (HM.rdN q t k)) (hm_va (HM.rdN q t k)) (nI k) (0) (HM.rs (HM.rdN q t k) (t)) (HM.vs (HM.rdN q t k)).length = some i := Option.ne_none_iff_exists'.mp (fun q => Int32.not_le.mpr ((hs_ix_neg (fun u q => by have := (hs_fi_lt q).1; omega)).mpr q) c_4)
                  have hl_i := (hs_fi_lt h_i).1
                  have hx_i : hs_ix (hs_fi (hm_vk (HM.rdN q t k)) (hm_va (HM.rdN q t k)) (nI k) (0) (HM.rs (HM.rdN q t k) (t)) (HM.vs (HM.rdN q t k)).length) = nI i := by rw [h_i]; rfl
                  refine lv_aload_n hx hb dX4_read_248 rfl (lv_at hl 2 rfl) ?_
                  refine hm_gf G in_X4_read_X4 hP rfl 20 (by decide) (by decide +kernel) (.ref (bd 18)) rfl rfl dX4_read_249 ?_
                  refine lv_iload hx hb dX4_read_252 (lv_at hl 0 rfl) ?_
                  refine hm_lI G hP 18 (hm_vv (HM.rdN q t k)) 256 rfl (i) (by rw [hx_i]; exact nI_clamp (by omega)) (by rw [hx_i]; exact hs_inN (by omega) (by decide)) (hm_vv (HM.rdN q t k) (i)) rfl dX4_read_254 ?_
                  refine lv_i2l (v := (Int32.toInt64 (hm_vv (HM.rdN q t k) (i)))) hx hb dX4_read_255 rfl ?_
                  refine lv_lstore (lv' := [(6, .long ((Int32.toInt64 (hm_vv (HM.rdN q t k) (i))))), (10, .int (hs_ix (hs_fi (hm_vk (HM.rdN q t k)) (hm_va (HM.rdN q t k)) (nI k) (0) (HM.rs (HM.rdN q t k) (t)) (HM.vs (HM.rdN q t k)).length))), (9, .int (hs_ix (hs_fi (hm_vk (q)) (hm_va (q)) (nI k) (HM.rs (q) (t)) (HM.lm (q) (t)) (HM.vs (q)).length))), (0, .ref (bd 0)), (1, .int (nI t)), (2, .int (nI k)), (4, .int (nI g)), (5, .int (nI (k % 4)))]) hx hb dX4_read_256 hl (by decide) rfl (fun ls hl => ?_)
                  have hb1 : hs_best (q.rs t) (q.lm t) (q.vk k) = none := by rw [hbf, h_j]; rfl
                  have e3 : q.rdX t k = q.rdN t k := by rw [HM.rdX, hb1]
                  have e4 : q.rdY t k = Int32.toInt64 (hs_gv (hs_best (-1) (q.rs t) (q.vk k))) := by rw [HM.rdY, hb1]
                  have e5 : hs_best (-1) (q.rs t) (q.vk k) = some ((q.rdN t k).vs.getD i (0, 0, 0)).2 := by have h := hb0.symm.trans hbf2; rw [h_i] at h; exact h
                  rw [e3, e4, e5] at JE
                  exact JE H locs hP hS ls (lv_sub hl [3, 6, 7, 0] rfl)
                · have h_i : hs_fi (hm_vk (HM.rdN q t k)) (hm_va (HM.rdN q t k)) (nI k) (0) (HM.rs (HM.rdN q t k) (t)) (HM.vs (HM.rdN q t k)).length = none := (hs_ix_neg (fun u q => by have := (hs_fi_lt q).1; omega)).mp (Int32.not_le.mp c_4)
                  refine lv_lconst (v := 0) hx hb dX4_read_244 (by decide) ?_
                  refine lv_goto (tgt := 256) hx hb dX4_read_245 (by decide) ?_
                  refine lv_lstore (lv' := [(6, .long (0)), (10, .int (hs_ix (hs_fi (hm_vk (HM.rdN q t k)) (hm_va (HM.rdN q t k)) (nI k) (0) (HM.rs (HM.rdN q t k) (t)) (HM.vs (HM.rdN q t k)).length))), (9, .int (hs_ix (hs_fi (hm_vk (q)) (hm_va (q)) (nI k) (HM.rs (q) (t)) (HM.lm (q) (t)) (HM.vs (q)).length))), (0, .ref (bd 0)), (1, .int (nI t)), (2, .int (nI k)), (4, .int (nI g)), (5, .int (nI (k % 4)))]) hx hb dX4_read_256 hl (by decide) rfl (fun ls hl => ?_)
                  have hb1 : hs_best (q.rs t) (q.lm t) (q.vk k) = none := by rw [hbf, h_j]; rfl
                  have e3 : q.rdX t k = q.rdN t k := by rw [HM.rdX, hb1]
                  have e4 : q.rdY t k = Int32.toInt64 (hs_gv (hs_best (-1) (q.rs t) (q.vk k))) := by rw [HM.rdY, hb1]
                  have e5 : hs_best (-1) (q.rs t) (q.vk k) = none := by have h := hb0.symm.trans hbf2; rw [h_i] at h; exact h
                  rw [e3, e4, e5] at JE
                  exact JE H locs hP hS ls (lv_sub hl [3, 6, 7, 0] rfl)
            · obtain ⟨j, h_j⟩ : ∃ j, hs_fi (hm_vk (q)) (hm_va (q)) (nI k) (HM.rs (q) (t)) (HM.lm (q) (t)) (HM.vs (q)).length = some j := Option.ne_none_iff_exists'.mp (fun q => c_1 ((hs_ix_neg (fun u q => by have := (hs_fi_lt q).1; omega)).mpr q))
              have hl_j := (hs_fi_lt h_j).1
              have hx_j : hs_ix (hs_fi (hm_vk (q)) (hm_va (q)) (nI k) (HM.rs (q) (t)) (HM.lm (q) (t)) (HM.vs (q)).length) = nI j := by rw [h_j]; rfl
              refine lv_aload_n hx hb dX4_read_165 rfl (lv_at hl 1 rfl) ?_
              refine lv_iload_n hx hb dX4_read_166 rfl (lv_at hl 2 rfl) ?_
              refine lv_aload_n hx hb dX4_read_167 rfl (lv_at hl 1 rfl) ?_
              refine hm_gf G in_X4_read_X4 hP rfl 19 (by decide) (by decide +kernel) (.ref (bd 17)) rfl rfl dX4_read_168 ?_
              refine lv_iload hx hb dX4_read_171 (lv_at hl 0 rfl) ?_
              refine hm_lL G hP 17 (hm_va (q)) 256 rfl (j) (by rw [hx_j]; exact nI_clamp (by omega)) (by rw [hx_j]; exact hs_inN (by omega) (by decide)) (hm_va (q) (j)) rfl dX4_read_173 ?_
              refine hs_callV (n := 2) (As := [.int (nI t), .long (hm_va (q) (j))]) (rest := []) G hml (r_restart l D cy bd ho (q) (fun _ h => hI3.hd h) (show t < 8 by omega) (hm_va (q) (j))) gX4_read_X4_restart rfl rfl rfl (by decide +kernel) ⟨Nat.le_of_ble_eq_true rfl, Nat.le_of_ble_eq_true rfl⟩ (q0 := 0) (ci := 4) (fs := hm_objL bd (q)) rfl rfl rfl rfl hl.1 (Nat.le_of_ble_eq_true rfl) ⟨Nat.zero_le _, Nat.zero_le _⟩ hP hS (fun _ h => h) rfl dX4_read_174 (fun H locs hP hS _ _ => ?_)
              have hD := hm_D ho cy (HM.re (q) (t) (hm_va (q) (j)))
              refine lv_ldc2 (v := 4294967297) hx hb G.2.2.2.1 (G.2.2.1 (.constantLong RX4 112 4294967297) (by decide +kernel)) dX4_read_177 ?_
              refine lv_lstore (lv' := [(6, .long (4294967297)), (9, .int (hs_ix (hs_fi (hm_vk (q)) (hm_va (q)) (nI k) (HM.rs (q) (t)) (HM.lm (q) (t)) (HM.vs (q)).length))), (0, .ref (bd 0)), (1, .int (nI t)), (2, .int (nI k)), (4, .int (nI g)), (5, .int (nI (k % 4)))]) hx hb dX4_read_180 hl (by decide) rfl (fun ls hl => ?_)
              refine lv_goto (tgt := 258) hx hb dX4_read_182 (by decide) ?_
              have hb1 : hs_best (q.rs t) (q.lm t) (q.vk k) = some (q.vs.getD j (0, 0, 0)).2 := by rw [hbf, h_j]; rfl
              have e3 : q.rdX t k = q.re t (hm_va q j) := by rw [HM.rdX, hb1]; rfl
              have e4 : q.rdY t k = 4294967297 := by rw [HM.rdY, hb1]
              rw [e3, e4] at JE
              exact JE H locs hP hS ls (lv_sub hl [2, 5, 6, 0] rfl)
          refine lv_aload_n hx hb dX4_read_73 rfl (lv_at hl 0 rfl) ?_
          refine hm_gf G in_X4_read_X4 hP rfl 15 (by decide) (by decide +kernel) (.ref (bd 14)) rfl rfl dX4_read_74 ?_
          refine lv_iload_n hx hb dX4_read_77 rfl (lv_at hl 2 rfl) ?_
          refine hm_lI G hP 14 (hm_hd (y)) 16 rfl (k) (nI_clamp (by omega)) (hs_inN (by omega) (by decide)) (hm_ho (HM.hd (y) (k))) rfl dX4_read_78 ?_
          refine lv_iload_n hx hb dX4_read_79 rfl (lv_at hl 1 rfl) ?_
          refine lv_iconst (v := 1) hx hb dX4_read_80 (by decide) ?_
          refine lv_iadd hx hb dX4_read_81 ?_
          rw [show ((nI t + 1)) = nI (t + 1) from nI_1 t]
          refine lv_icmp_ne (tgt := 97) hx hb dX4_read_82 (by decide) (fun c_1 => ?_) (fun c_1 => ?_)
          · refine lv_aload_n hx hb dX4_read_97 rfl (lv_at hl 0 rfl) ?_
            refine lv_iload_n hx hb dX4_read_98 rfl (lv_at hl 2 rfl) ?_
            refine hs_callV (n := 1) (As := [.int (nI k)]) (rest := []) G hml (r_meet l D cy bd ho (y) _ (hIy) (hk) (t := t) (he)) gX4_read_X4_meet rfl rfl rfl (by decide +kernel) ⟨Nat.le_of_ble_eq_true rfl, Nat.le_of_ble_eq_true rfl⟩ (q0 := 0) (ci := 4) (fs := hm_objL bd (y)) rfl rfl rfl rfl hl.1 (Nat.le_of_ble_eq_true rfl) ⟨Nat.zero_le _, Nat.zero_le _⟩ hP hS (fun _ h => h) rfl dX4_read_99 (fun H locs hP hS _ _ => ?_)
            have hD := hm_D ho cy (HM.look (y) (t) (k))
            refine lv_istore (lv' := [(8, .int (hs_ix (HM.lkU (y) (t) (k)))), (0, .ref (bd 0)), (1, .int (nI t)), (2, .int (nI k)), (4, .int (nI g)), (5, .int (nI (k % 4)))]) hx hb dX4_read_102 hl (by decide) rfl (fun ls hl => ?_)
            refine lv_iload hx hb dX4_read_104 (lv_at hl 0 rfl) ?_
            refine lv_if_lt (tgt := 141) hx hb dX4_read_106 (by decide) (fun c_2 => ?_) (fun c_2 => ?_)
            · have h_u : HM.lkU (y) (t) (k) = none := (hs_ix_neg (fun u q => by have := hIy.lkU hk q; omega)).mp c_2
              exact J141 H locs (by rw [← hz, HM.lpR, h_u]; exact hP) hS ls (lv_sub hl [1, 2, 3, 4, 5] rfl)
            · obtain ⟨u, h_u⟩ : ∃ u, HM.lkU (y) (t) (k) = some u := Option.ne_none_iff_exists'.mp (fun q => c_2 ((hs_ix_neg (fun u q => by have := hIy.lkU hk q; omega)).mpr q))
              have hl_u := hIy.lkU hk h_u
              have hx_u : hs_ix (HM.lkU (y) (t) (k)) = nI u := by rw [h_u]; rfl
              refine lv_aload_n hx hb dX4_read_109 rfl (lv_at hl 1 rfl) ?_
              refine hm_gf G in_X4_read_X4 hP rfl 7 (by decide) (by decide +kernel) (.ref (bd 8)) rfl rfl dX4_read_110 ?_
              refine lv_iload hx hb dX4_read_113 (lv_at hl 0 rfl) ?_
              refine hm_lL G hP 8 (HM.ws (HM.look (y) (t) (k))) 8 rfl (u) (by rw [hx_u]; exact nI_clamp (by omega)) (by rw [hx_u]; exact hs_inN (by omega) (by decide)) (HM.ws (HM.look (y) (t) (k)) (u)) rfl dX4_read_115 ?_
              refine lv_aload_n hx hb dX4_read_116 rfl (lv_at hl 1 rfl) ?_
              refine hm_gf G in_X4_read_X4 hP rfl 6 (by decide) (by decide +kernel) (.ref (bd 7)) rfl rfl dX4_read_117 ?_
              refine lv_iload_n hx hb dX4_read_120 rfl (lv_at hl 2 rfl) ?_
              refine hm_lL G hP 7 (HM.rs (HM.look (y) (t) (k))) 8 rfl (t) (nI_clamp (by omega)) (hs_inN (by omega) (by decide)) (HM.rs (HM.look (y) (t) (k)) (t)) rfl dX4_read_121 ?_
              refine hs_lgt (x := HM.ws (HM.look (y) (t) (k)) (u)) (y := HM.rs (HM.look (y) (t) (k)) (t)) (tgt := 141) hx hb dX4_read_122 dX4_read_123 (by decide) (fun c_3 => ?_) (fun c_3 => ?_)
              · exact J141 H locs (by rw [← hz, HM.lpR, h_u]; dsimp only; rw [← hs_pu_neg (HM.look y t k) c_3]; exact hP) hS ls (lv_sub hl [1, 2, 3, 4, 5] rfl)
              · refine lv_aload_n hx hb dX4_read_126 rfl (lv_at hl 1 rfl) ?_
                refine hm_gf G in_X4_read_X4 hP rfl 7 (by decide) (by decide +kernel) (.ref (bd 8)) rfl rfl dX4_read_127 ?_
                refine lv_iload hx hb dX4_read_130 (lv_at hl 0 rfl) ?_
                refine lv_aload_n hx hb dX4_read_132 rfl (lv_at hl 1 rfl) ?_
                refine hm_gf G in_X4_read_X4 hP rfl 6 (by decide) (by decide +kernel) (.ref (bd 7)) rfl rfl dX4_read_133 ?_
                refine lv_iload_n hx hb dX4_read_136 rfl (lv_at hl 2 rfl) ?_
                refine hm_lL G hP 7 (HM.rs (HM.look (y) (t) (k))) 8 rfl (t) (nI_clamp (by omega)) (hs_inN (by omega) (by decide)) (HM.rs (HM.look (y) (t) (k)) (t)) rfl dX4_read_137 ?_
                refine lv_lconst (v := 1) hx hb dX4_read_138 (by decide) ?_
                refine lv_ladd hx hb dX4_read_139 ?_
                refine hm_sL G hP hD hS 8 (HM.ws (HM.look (y) (t) (k))) 8 rfl (u) (by rw [hx_u]; exact nI_clamp (by omega)) (by rw [hx_u]; exact hs_inN (by omega) (by decide)) (hm_mem bd cy (HM.u_ws (HM.look (y) (t) (k)) (u) ((HM.rs (HM.look (y) (t) (k)) (t) + 1)))) hm_s_ws dX4_read_140 (fun H locs hP hD hS => ?_)
                exact J141 H locs (by rw [← hz, HM.lpR, h_u]; dsimp only; rw [← hs_pu_pos (HM.look y t k) c_3]; exact hP) hS ls (lv_sub hl [1, 2, 3, 4, 5] rfl)
          · exact absurd ((hm_ho_eq ht (hIy.hd hk)).mp c_1) he
      refine lv_iload_n hx hb dX4_read_0 rfl (lv_at hl 1 rfl) ?_
      refine lv_if_lt (tgt := 20) hx hb dX4_read_1 (by decide) (fun c_1 => ?_) (fun c_1 => ?_)
      · exact absurd c_1 (nI_pos (by omega))
      · refine lv_iload_n hx hb dX4_read_4 rfl (lv_at hl 1 rfl) ?_
        refine lv_bipush (v := 7) hx hb dX4_read_5 (by decide) ?_
        refine lv_icmp_gt (tgt := 20) hx hb dX4_read_7 (by decide) (fun c_2 => ?_) (fun c_2 => ?_)
        · exact absurd c_2 (hs_le_in ht (by decide))
        · refine lv_iload_n hx hb dX4_read_10 rfl (lv_at hl 2 rfl) ?_
          refine lv_if_lt (tgt := 20) hx hb dX4_read_11 (by decide) (fun c_3 => ?_) (fun c_3 => ?_)
          · exact absurd c_3 (nI_pos (by omega))
          · refine lv_iload_n hx hb dX4_read_14 rfl (lv_at hl 2 rfl) ?_
            refine lv_bipush (v := 15) hx hb dX4_read_15 (by decide) ?_
            refine lv_icmp_le (tgt := 24) hx hb dX4_read_17 (by decide) (fun c_4 => ?_) (fun c_4 => ?_)
            · refine lv_aload_n hx hb dX4_read_24 rfl (lv_at hl 0 rfl) ?_
              refine lv_iload_n hx hb dX4_read_25 rfl (lv_at hl 1 rfl) ?_
              refine hs_callV (n := 1) (As := [.int (nI t)]) (rest := []) G hml (r_stopped l D cy bd ho (x) (hph) (nI t)) gX4_read_X4_stopped rfl rfl rfl (by decide +kernel) ⟨Nat.le_of_ble_eq_true rfl, Nat.le_of_ble_eq_true rfl⟩ (q0 := 0) (ci := 4) (fs := hm_objL bd (x)) rfl rfl rfl rfl hl.1 (Nat.le_of_ble_eq_true rfl) ⟨Nat.zero_le _, Nat.zero_le _⟩ hP hS (fun _ h => h) rfl dX4_read_26 (fun H locs hP hS _ _ => ?_)
              have hD := hm_D ho cy (HM.stopM (x) (nI t))
              rw [sM] at hP
              have hD := hm_D ho cy (x.stp t)
              refine lv_istore_n (lv' := [(3, .int (HM.stopA (x) (nI t))), (0, .ref (bd 0)), (1, .int (nI t)), (2, .int (nI k))]) hx hb dX4_read_29 rfl hl (by decide) rfl (fun ls hl => ?_)
              refine lv_iload_n hx hb dX4_read_30 rfl (lv_at hl 0 rfl) ?_
              refine lv_if_eq (tgt := 41) hx hb dX4_read_31 (by decide) (fun c_5 => ?_) (fun c_5 => ?_)
              · have hc0 : x.stc t = 0 := sA.symm.trans c_5
                have eA' := eA.trans (if_pos hc0)
                have eM' := eM.trans (if_pos hc0)
                refine lv_aload_n hx hb dX4_read_41 rfl (lv_at hl 1 rfl) ?_
                refine hm_gf G in_X4_read_X4 hP rfl 3 (by decide) (by decide +kernel) (.ref (bd 4)) rfl rfl dX4_read_42 ?_
                refine lv_iload_n hx hb dX4_read_45 rfl (lv_at hl 2 rfl) ?_
                refine hm_lI G hP 4 (hm_gt (HM.stp x t)) 8 rfl (t) (nI_clamp (by omega)) (hs_inN (by omega) (by decide)) (nI (HM.gt (HM.stp x t) (t))) rfl dX4_read_46 ?_
                refine lv_istore (lv' := [(4, .int (nI (HM.gt (HM.stp x t) (t)))), (3, .int (HM.stopA (x) (nI t))), (0, .ref (bd 0)), (1, .int (nI t)), (2, .int (nI k))]) hx hb dX4_read_47 hl (by decide) rfl (fun ls hl => ?_)
                refine lv_iload_n hx hb dX4_read_49 rfl (lv_at hl 4 rfl) ?_
                refine lv_iconst (v := 3) hx hb dX4_read_50 (by decide) ?_
                refine lv_iand hx hb dX4_read_51 ?_
                rw [show ((nI k &&& 3)) = nI (k % 4) from hs_and3 hk]
                refine lv_istore (lv' := [(5, .int (nI (k % 4))), (4, .int (nI (HM.gt (HM.stp x t) (t)))), (3, .int (HM.stopA (x) (nI t))), (0, .ref (bd 0)), (1, .int (nI t)), (2, .int (nI k))]) hx hb dX4_read_52 hl (by decide) rfl (fun ls hl => ?_)
                refine lv_aload_n hx hb dX4_read_54 rfl (lv_at hl 3 rfl) ?_
                refine lv_iload hx hb dX4_read_55 (lv_at hl 1 rfl) ?_
                refine hs_callV (n := 1) (As := [.int (nI (HM.gt (HM.stp x t) (t)))]) (rest := []) G hml (r_event l D cy bd ho (HM.stp x t) (show HM.gt (HM.stp x t) (t) < 4 by first | omega | exact hm4)) gX4_read_X4_event rfl rfl rfl (by decide +kernel) ⟨Nat.le_of_ble_eq_true rfl, Nat.le_of_ble_eq_true rfl⟩ (q0 := 0) (ci := 4) (fs := hm_objL bd (HM.stp x t)) rfl rfl rfl rfl hl.1 (Nat.le_of_ble_eq_true rfl) ⟨Nat.zero_le _, Nat.zero_le _⟩ hP hS (fun _ h => h) rfl dX4_read_57 (fun H locs hP hS _ _ => ?_)
                have hD := hm_D ho cy (HM.ev (HM.stp x t) (HM.gt (HM.stp x t) (t)))
                refine lv_aload_n hx hb dX4_read_60 rfl (lv_at hl 3 rfl) ?_
                refine lv_iload hx hb dX4_read_61 (lv_at hl 0 rfl) ?_
                refine lv_aload_n hx hb dX4_read_63 rfl (lv_at hl 3 rfl) ?_
                refine hm_gf G in_X4_read_X4 hP rfl 1 (by decide) (by decide +kernel) (.ref (bd 2)) rfl rfl dX4_read_64 ?_
                refine lv_iload hx hb dX4_read_67 (lv_at hl 1 rfl) ?_
                refine hm_lL G hP 2 (HM.ck (HM.ev (HM.stp x t) (HM.gt (HM.stp x t) (t)))) 4 rfl (HM.gt (HM.stp x t) (t)) (nI_clamp (by omega)) (hs_inN (by omega) (by decide)) (HM.ck (HM.ev (HM.stp x t) (HM.gt (HM.stp x t) (t))) (HM.gt (HM.stp x t) (t))) rfl dX4_read_69 ?_
                refine hs_callV (n := 2) (As := [.int (nI (k % 4)), .long (HM.ck (HM.ev (HM.stp x t) (HM.gt (HM.stp x t) (t))) (HM.gt (HM.stp x t) (t)))]) (rest := []) G hml (r_receive l D cy bd ho (HM.ev (HM.stp x t) (HM.gt (HM.stp x t) (t))) (show k % 4 < 4 by first | omega | exact hm4) (HM.ck (HM.ev (HM.stp x t) (HM.gt (HM.stp x t) (t))) (HM.gt (HM.stp x t) (t)))) gX4_read_X4_receive rfl rfl rfl (by decide +kernel) ⟨Nat.le_of_ble_eq_true rfl, Nat.le_of_ble_eq_true rfl⟩ (q0 := 0) (ci := 4) (fs := hm_objL bd (HM.ev (HM.stp x t) (HM.gt (HM.stp x t) (t)))) rfl rfl rfl rfl hl.1 (Nat.le_of_ble_eq_true rfl) ⟨Nat.zero_le _, Nat.zero_le _⟩ hP hS (fun _ h => h) rfl dX4_read_70 (fun H locs hP hS _ _ => ?_)
                have hD := hm_D ho cy (HM.tk (HM.ev (HM.stp x t) (HM.gt (HM.stp x t) (t))) (k % 4) (HM.ck (HM.ev (HM.stp x t) (HM.gt (HM.stp x t) (t))) (HM.gt (HM.stp x t) (t))))
                exact J73 ((x.stp t).opn t k) ((x.stp t).gt t) hI2 rfl hg0 (fun j hj => by rw [show ((x.stp t).opn t k).bi = (x.stp t).bi from rfl, hs_stp_bi]; exact hbi j hj) eA' eM' H locs hP hS ls (lv_sub hl [3, 4, 5, 1, 0] rfl)
              · have hc0 : ¬ x.stc t = 0 := fun q => c_5 (sA.trans q)
                have eA' := eA.trans (if_neg hc0)
                have eM' := eM.trans (if_neg hc0)
                refine lv_ldc2 (v := 4294967296) hx hb G.2.2.2.1 (G.2.2.1 (.constantLong RX4 100 4294967296) (by decide +kernel)) dX4_read_34 ?_
                refine lv_iload_n hx hb dX4_read_37 rfl (lv_at hl 0 rfl) ?_
                refine lv_i2l (v := (Int32.toInt64 (HM.stopA (x) (nI t)))) hx hb dX4_read_38 rfl ?_
                refine lv_ladd hx hb dX4_read_39 ?_
                exact ct_lret hx hb hr hlocks (by rw [eA', sA]) (by rw [eM']; exact hP) hS dX4_read_40
            · exact absurd (Int32.not_lt.mp (hs_le_in hk (by decide))) c_4
theorem in_X4_write_X4 : ∀ w ∈ u_ws RX4 TX4 21, w ∈ wsX4_write := by decide +kernel
set_option maxHeartbeats 4000000 in
set_option maxRecDepth 100000 in
/-- reference: r_write -/
theorem r_write (l : Launch) (D : va_G) (cy : Nat → ClassId) (bd : Nat → Nat) (ho : hm_ok bd) (x : HM) (B : Int) (hIn : x.In B) (hB : B + 200 < 4611686018427387904) (hph : hs_Ph x) (hbi : ∀ t, t < 8 → x.bi t < 2 ^ 31) (z w : Int32) (v : Int32) : Ct l yX4_write wsX4_write ({ frames := 2, cells := 0, slots := 0, locals := 51 }) D cy (hm_A bd) [.ref (bd 0), .int (z), .int (w), .int (v)] (hm_mem bd cy (x)) (some (.int (x.writeA z w))) (hm_mem bd cy (x.writeM z w v)) := by
  rcases hs_rng z (b := 8) (by decide) with hz | ⟨t, ht, rfl⟩
  · refine ct_of (cc := cX4_write) (maxL := 12) (ret := (some .int)) rfl (by decide) (Nat.le_of_ble_eq_true rfl) ?_
    intro p e s m below meth c ls G hx hb hml hr hlocks hP hS hl
    have hD := hm_D ho cy (x)
    have hl : lv_has ls 12 [(0, .ref (bd 0)), (1, .int (z)), (2, .int (w)), (3, .int (v))] := hl
    refine lv_iload_n hx hb dX4_write_0 rfl (lv_at hl 1 rfl) ?_
    refine lv_if_lt (tgt := 20) hx hb dX4_write_1 (by decide) (fun c_1 => ?_) (fun c_1 => ?_)
    · refine lv_iconst (v := (-1)) hx hb dX4_write_20 (by decide) ?_
      exact ct_iret hx hb hr hlocks (by rw [HM.writeA, hs_n_out hz]) (by rw [HM.writeM, hs_n_out hz]; exact hP) hS dX4_write_21
    · refine lv_iload_n hx hb dX4_write_4 rfl (lv_at hl 1 rfl) ?_
      refine lv_bipush (v := 7) hx hb dX4_write_5 (by decide) ?_
      refine lv_icmp_gt (tgt := 20) hx hb dX4_write_7 (by decide) (fun c_2 => ?_) (fun c_2 => ?_)
      · refine lv_iconst (v := (-1)) hx hb dX4_write_20 (by decide) ?_
        exact ct_iret hx hb hr hlocks (by rw [HM.writeA, hs_n_out hz]) (by rw [HM.writeM, hs_n_out hz]; exact hP) hS dX4_write_21
      · exact absurd (hs_gt_of hz c_1 (by decide)) c_2
  · have eT := hs_n_in ht (show 8 < 2 ^ 31 by decide)
    rcases hs_rng w (b := 16) (by decide) with hw | ⟨k, hk, rfl⟩
    · refine ct_of (cc := cX4_write) (maxL := 12) (ret := (some .int)) rfl (by decide) (Nat.le_of_ble_eq_true rfl) ?_
      intro p e s m below meth c ls G hx hb hml hr hlocks hP hS hl
      have hD := hm_D ho cy (x)
      have hl : lv_has ls 12 [(0, .ref (bd 0)), (1, .int (nI t)), (2, .int (w)), (3, .int (v))] := hl
      refine lv_iload_n hx hb dX4_write_0 rfl (lv_at hl 1 rfl) ?_
      refine lv_if_lt (tgt := 20) hx hb dX4_write_1 (by decide) (fun c_1 => ?_) (fun c_1 => ?_)
      · exact absurd c_1 (nI_pos (by omega))
      · refine lv_iload_n hx hb dX4_write_4 rfl (lv_at hl 1 rfl) ?_
        refine lv_bipush (v := 7) hx hb dX4_write_5 (by decide) ?_
        refine lv_icmp_gt (tgt := 20) hx hb dX4_write_7 (by decide) (fun c_2 => ?_) (fun c_2 => ?_)
        · exact absurd c_2 (hs_le_in ht (by decide))
        · refine lv_iload_n hx hb dX4_write_10 rfl (lv_at hl 2 rfl) ?_
          refine lv_if_lt (tgt := 20) hx hb dX4_write_11 (by decide) (fun c_3 => ?_) (fun c_3 => ?_)
          · refine lv_iconst (v := (-1)) hx hb dX4_write_20 (by decide) ?_
            exact ct_iret hx hb hr hlocks (by rw [HM.writeA, eT, hs_n_out hw]) (by rw [HM.writeM, eT, hs_n_out hw]; exact hP) hS dX4_write_21
          · refine lv_iload_n hx hb dX4_write_14 rfl (lv_at hl 2 rfl) ?_
            refine lv_bipush (v := 15) hx hb dX4_write_15 (by decide) ?_
            refine lv_icmp_le (tgt := 22) hx hb dX4_write_17 (by decide) (fun c_4 => ?_) (fun c_4 => ?_)
            · exact absurd c_4 (Int32.not_le.mpr (hs_gt_of hw c_3 (by decide)))
            · refine lv_iconst (v := (-1)) hx hb dX4_write_20 (by decide) ?_
              exact ct_iret hx hb hr hlocks (by rw [HM.writeA, eT, hs_n_out hw]) (by rw [HM.writeM, eT, hs_n_out hw]; exact hP) hS dX4_write_21
    · have eK := hs_n_in hk (show 16 < 2 ^ 31 by decide)
      have eA : x.writeA (nI t) (nI k) = if x.stc t = 0 then ((x.stp t).opn t k).wrA t k else x.stc t := by rw [HM.writeA, eT, eK]
      have eM : x.writeM (nI t) (nI k) v = if x.stc t = 0 then (((x.stp t).opn t k).wrM t k v).cls t k else x.stp t := by rw [HM.writeM, eT, eK]
      have sA : x.stopA (nI t) = x.stc t := by rw [HM.stopA, eT]
      have sM : x.stopM (nI t) = x.stp t := by rw [HM.stopM, eT]
      have hI0 := hIn.stp t
      have hg0 := hI0.gt ht
      have hI1 := hI0.ev (by omega) hg0
      have hI2 := hI0.opn (k := k) (by omega) ht
      have hm4 : k % 4 < 4 := Nat.mod_lt _ (by decide)
      refine ct_of (cc := cX4_write) (maxL := 12) (ret := (some .int)) rfl (by decide) (Nat.le_of_ble_eq_true rfl) ?_
      intro p e s m below meth c ls G hx hb hml hr hlocks hP hS hl
      have hD := hm_D ho cy (x)
      have hl : lv_has ls 12 [(0, .ref (bd 0)), (1, .int (nI t)), (2, .int (nI k)), (3, .int (v))] := hl
      have J73 : ∀ (y : HM) (g : Nat), y.In (B + 2) → y.gt t = g → g < 4 → (∀ j, j < 8 → y.bi j < 2 ^ 31) → x.writeA (nI t) (nI k) = y.wrA t k → x.writeM (nI t) (nI k) v = (y.wrM t k v).cls t k → ∀ (H : Heap) (locs : List Loc), va_P D vwCl (hm_mem bd cy y) H → va_S (hm_A bd) s.heap H locs → ∀ ls : Array Slot, lv_has ls 12 [(0, .ref (bd 0)), (1, .int (nI t)), (2, .int (nI k)), (5, .int (nI g)), (6, .int (nI (k % 4))), (3, .int (v)), (7, .int (0))] → W p l e ({ frames := 2, cells := 0, slots := 0, locals := 51 }) s m [.ref (bd 0), .int (nI t), .int (nI k), .int (v)].toArray below meth c H locs 0 0 (MQ below (hs_Post D (some (.int (x.writeA (nI t) (nI k)))) (hm_mem bd cy (x.writeM (nI t) (nI k) v)) (hm_A bd)) [.ref (bd 0), .int (nI t), .int (nI k), .int (v)].toArray s 0 0 (hm_A bd)) (F0 m 72 ls []) := by
        intro y g hIy hgy hg4 hby hA hM H locs hP hS ls hl
        have hD := hm_D ho cy y
        have hIl := hIy.look (t := t) (by omega) hk
        have JE : ∀ (H : Heap) (locs : List Loc), va_P D vwCl (hm_mem bd cy (y.wrM t k v)) H → va_S (hm_A bd) s.heap H locs → ∀ ls : Array Slot, lv_has ls 12 [(0, .ref (bd 0)), (5, .int (nI g)), (6, .int (nI (k % 4))), (7, .int (HM.wrA y t k))] → W p l e ({ frames := 2, cells := 0, slots := 0, locals := 51 }) s m [.ref (bd 0), .int (nI t), .int (nI k), .int (v)].toArray below meth c H locs 0 0 (MQ below (hs_Post D (some (.int (x.writeA (nI t) (nI k)))) (hm_mem bd cy (x.writeM (nI t) (nI k) v)) (hm_A bd)) [.ref (bd 0), .int (nI t), .int (nI k), .int (v)].toArray s 0 0 (hm_A bd)) (F0 m 251 ls []) := by
          intro H locs hP hS ls hl
          have hD := hm_D ho cy (y.wrM t k v)
          refine lv_aload_n hx hb dX4_write_251 rfl (lv_at hl 0 rfl) ?_
          refine lv_iload hx hb dX4_write_252 (lv_at hl 1 rfl) ?_
          refine lv_aload_n hx hb dX4_write_254 rfl (lv_at hl 0 rfl) ?_
          refine hm_gf G in_X4_write_X4 hP rfl 1 (by decide) (by decide +kernel) (.ref (bd 2)) rfl rfl dX4_write_255 ?_
          refine lv_iload hx hb dX4_write_258 (lv_at hl 2 rfl) ?_
          refine hm_lL G hP 2 (HM.ck (y.wrM t k v)) 4 rfl (k % 4) (nI_clamp (by omega)) (hs_inN (by omega) (by decide)) (HM.ck (y.wrM t k v) (k % 4)) rfl dX4_write_260 ?_
          refine hs_callV (n := 2) (As := [.int (nI g), .long (HM.ck (y.wrM t k v) (k % 4))]) (rest := []) G hml (r_receive l D cy bd ho (y.wrM t k v) (show g < 4 by first | omega | exact hi) (HM.ck (y.wrM t k v) (k % 4))) gX4_write_X4_receive rfl rfl rfl (by decide +kernel) ⟨Nat.le_of_ble_eq_true rfl, Nat.le_of_ble_eq_true rfl⟩ (q0 := 0) (ci := 4) (fs := hm_objL bd (y.wrM t k v)) rfl rfl rfl rfl hl.1 (Nat.le_of_ble_eq_true rfl) ⟨Nat.zero_le _, Nat.zero_le _⟩ hP hS (fun _ h => h) rfl dX4_write_261 (fun H locs hP hS _ _ => ?_)
          have hD := hm_D ho cy (HM.tk (y.wrM t k v) (g) (HM.ck (y.wrM t k v) (k % 4)))
          refine lv_iload hx hb dX4_write_264 (lv_at hl 3 rfl) ?_
          exact ct_iret hx hb hr hlocks (by rw [hA]) (by rw [hM, HM.cls, hs_wrM_gt, hgy]; exact hP) hS dX4_write_266
        by_cases he : y.hd k = some t
        · refine lv_aload_n hx hb dX4_write_72 rfl (lv_at hl 0 rfl) ?_
          refine hm_gf G in_X4_write_X4 hP rfl 15 (by decide) (by decide +kernel) (.ref (bd 14)) rfl rfl dX4_write_73 ?_
          refine lv_iload_n hx hb dX4_write_76 rfl (lv_at hl 2 rfl) ?_
          refine hm_lI G hP 14 (hm_hd (y)) 16 rfl (k) (nI_clamp (by omega)) (hs_inN (by omega) (by decide)) (hm_ho (HM.hd (y) (k))) rfl dX4_write_77 ?_
          refine lv_iload_n hx hb dX4_write_78 rfl (lv_at hl 1 rfl) ?_
          refine lv_iconst (v := 1) hx hb dX4_write_79 (by decide) ?_
          refine lv_iadd hx hb dX4_write_80 ?_
          rw [show ((nI t + 1)) = nI (t + 1) from nI_1 t]
          refine lv_icmp_ne (tgt := 94) hx hb dX4_write_81 (by decide) (fun c_1 => ?_) (fun c_1 => ?_)
          · exact absurd he (fun q => c_1 ((hm_ho_eq ht (hIy.hd hk)).mpr q))
          · refine lv_aload_n hx hb dX4_write_84 rfl (lv_at hl 0 rfl) ?_
            refine hm_gf G in_X4_write_X4 hP rfl 16 (by decide) (by decide +kernel) (.ref (bd 15)) rfl rfl dX4_write_85 ?_
            refine lv_iload_n hx hb dX4_write_88 rfl (lv_at hl 2 rfl) ?_
            refine lv_iload_n hx hb dX4_write_89 rfl (lv_at hl 5 rfl) ?_
            refine hm_sI G hP hD hS 15 (HM.pl (y)) 16 rfl (k) (nI_clamp (by omega)) (hs_inN (by omega) (by decide)) (hm_mem bd cy (HM.u_pl (y) (k) (v))) hm_s_pl dX4_write_90 (fun H locs hP hD hS => ?_)
            refine lv_goto (tgt := 251) hx hb dX4_write_91 (by decide) ?_
            have e1 : y.wrA t k = 0 := if_pos he
            have e2 : y.wrM t k v = y.u_pl k v := if_pos he
            rw [e1, e2] at JE
            exact JE H locs hP hS ls (lv_sub hl [0, 3, 4, 6] rfl)
        · have e1 : y.wrA t k = if y.wrB t k then -5 else if 16 ≤ ((y.wr1 t k).vk k).length then -7 else 0 := if_neg he
          have e2 : y.wrM t k v = if y.wrB t k then y.look t k else if 16 ≤ ((y.wr1 t k).vk k).length then y.wr1 t k else (y.wr1 t k).wr3 t k v := if_neg he
          have hI3 := hIy.wr1 (t := t) (by omega) hk
          rw [e1, e2] at JE
          have J150 : ∀ (_ : y.wrB t k = false) (H : Heap) (locs : List Loc), va_P D vwCl (hm_mem bd cy (y.wr1 t k)) H → va_S (hm_A bd) s.heap H locs → ∀ ls : Array Slot, lv_has ls 12 [(0, .ref (bd 0)), (1, .int (nI t)), (2, .int (nI k)), (5, .int (nI g)), (6, .int (nI (k % 4))), (3, .int (v)), (7, .int (0))] → W p l e ({ frames := 2, cells := 0, slots := 0, locals := 51 }) s m [.ref (bd 0), .int (nI t), .int (nI k), .int (v)].toArray below meth c H locs 0 0 (MQ below (hs_Post D (some (.int (x.writeA (nI t) (nI k)))) (hm_mem bd cy (x.writeM (nI t) (nI k) v)) (hm_A bd)) [.ref (bd 0), .int (nI t), .int (nI k), .int (v)].toArray s 0 0 (hm_A bd)) (F0 m 150 ls []) := by
            intro hnb H locs hP hS ls hl
            have hD := hm_D ho cy (y.wr1 t k)
            rw [if_neg (show ¬ y.wrB t k = true by rw [hnb]; decide), if_neg (show ¬ y.wrB t k = true by rw [hnb]; decide)] at JE
            generalize y.wr1 t k = q at hP hD hI3 JE
            have hv : q.versionsA (nI k) = nI (q.vk k).length := by rw [HM.versionsA, hs_n_in hk (by decide)]
            have hl16 := hI3.le16 hk
            have hlen := hI3.len
            have hbf := hI3.best_fi 0 9223372036854775807 hk
            have hb0 := hI3.best0 9223372036854775807 k
            refine lv_aload_n hx hb dX4_write_150 rfl (lv_at hl 0 rfl) ?_
            refine lv_iload_n hx hb dX4_write_151 rfl (lv_at hl 2 rfl) ?_
            refine hs_callV (n := 1) (As := [.int (nI k)]) (rest := []) G hml (r_versions l D cy bd ho (q) _ (hI3) (nI k)) gX4_write_X4_versions rfl rfl rfl (by decide +kernel) ⟨Nat.le_of_ble_eq_true rfl, Nat.le_of_ble_eq_true rfl⟩ (q0 := 0) (ci := 4) (fs := hm_objL bd (q)) rfl rfl rfl rfl hl.1 (Nat.le_of_ble_eq_true rfl) ⟨Nat.zero_le _, Nat.zero_le _⟩ hP hS (fun _ h => h) rfl dX4_write_152 (fun H locs hP hS _ _ => ?_)
            refine lv_bipush (v := 16) hx hb dX4_write_155 (by decide) ?_
            refine lv_icmp_ne (tgt := 167) hx hb dX4_write_157 (by decide) (fun c_1 => ?_) (fun c_1 => ?_)
            · have hf : ¬ 16 ≤ (q.vk k).length := fun z => c_1 (by rw [hv, show (q.vk k).length = 16 by omega]; rfl)
              rw [if_neg hf, if_neg hf] at JE
              refine lv_aload_n hx hb dX4_write_167 rfl (lv_at hl 0 rfl) ?_
              refine hm_gf G in_X4_write_X4 hP rfl 14 (by decide) (by decide +kernel) (.ref (bd 13)) rfl rfl dX4_write_168 ?_
              refine lv_iload_n hx hb dX4_write_171 rfl (lv_at hl 2 rfl) ?_
              refine hm_lL G hP 13 (HM.lr (q)) 16 rfl (k) (nI_clamp (by omega)) (hs_inN (by omega) (by decide)) (HM.lr (q) (k)) rfl dX4_write_172 ?_
              refine lv_lstore (lv' := [(9, .long (HM.lr (q) (k))), (0, .ref (bd 0)), (1, .int (nI t)), (2, .int (nI k)), (5, .int (nI g)), (6, .int (nI (k % 4))), (3, .int (v)), (7, .int (0))]) hx hb dX4_write_173 hl (by decide) rfl (fun ls hl => ?_)
              refine lv_aload_n hx hb dX4_write_175 rfl (lv_at hl 1 rfl) ?_
              refine lv_iload_n hx hb dX4_write_176 rfl (lv_at hl 3 rfl) ?_
              refine lv_lconst (v := 0) hx hb dX4_write_177 (by decide) ?_
              refine lv_ldc2 (v := 9223372036854775807) hx hb G.2.2.2.1 (G.2.2.1 (.constantLong RX4 117 9223372036854775807) (by decide +kernel)) dX4_write_178 ?_
              refine hs_callV (n := 3) (As := [.int (nI k), .long (0), .long (9223372036854775807)]) (rest := []) G hml (r_find l D cy bd ho (q) (hI3.len) (hk) (0) (9223372036854775807)) gX4_write_X4_find rfl rfl rfl (by decide +kernel) ⟨Nat.le_of_ble_eq_true rfl, Nat.le_of_ble_eq_true rfl⟩ (q0 := 0) (ci := 4) (fs := hm_objL bd (q)) rfl rfl rfl rfl hl.1 (Nat.le_of_ble_eq_true rfl) ⟨Nat.zero_le _, Nat.zero_le _⟩ hP hS (fun _ h => h) rfl dX4_write_181 (fun H locs hP hS _ _ => ?_)
              refine lv_istore (lv' := [(11, .int (hs_ix (hs_fi (hm_vk (q)) (hm_va (q)) (nI k) (0) (9223372036854775807) (HM.vs (q)).length))), (9, .long (HM.lr (q) (k))), (0, .ref (bd 0)), (1, .int (nI t)), (2, .int (nI k)), (5, .int (nI g)), (6, .int (nI (k % 4))), (3, .int (v)), (7, .int (0))]) hx hb dX4_write_184 hl (by decide) rfl (fun ls hl => ?_)
              refine lv_iload hx hb dX4_write_186 (lv_at hl 0 rfl) ?_
              refine lv_if_lt (tgt := 213) hx hb dX4_write_188 (by decide) (fun c_2 => ?_) (fun c_2 => ?_)
              · have h_j : hs_fi (hm_vk (q)) (hm_va (q)) (nI k) (0) (9223372036854775807) (HM.vs (q)).length = none := (hs_ix_neg (fun u q => by have := (hs_fi_lt q).1; omega)).mp c_2
                have hgs : hs_gs (hs_best (-1) 9223372036854775807 (q.vk k)) = -1 := by rw [← hb0, hbf, h_j]; rfl
                have hfl : (if q.lr k < hs_gs (hs_best (-1) 9223372036854775807 (q.vk k)) then hs_gs (hs_best (-1) 9223372036854775807 (q.vk k)) else q.lr k) = HM.lr (q) (k) := by rw [hgs]; exact if_neg (hs_nlt_m1 (hI3.lr hk).1)
                have hw2 := hI3.wr2' (t := t) (by omega) hk
                rw [hfl] at hw2
                refine lv_aload_n hx hb dX4_write_213 rfl (lv_at hl 2 rfl) ?_
                refine hm_gf G in_X4_write_X4 hP rfl 7 (by decide) (by decide +kernel) (.ref (bd 8)) rfl rfl dX4_write_214 ?_
                refine lv_iload_n hx hb dX4_write_217 rfl (lv_at hl 3 rfl) ?_
                refine hm_lL G hP 8 (HM.ws (q)) 8 rfl (t) (nI_clamp (by omega)) (hs_inN (by omega) (by decide)) (HM.ws (q) (t)) rfl dX4_write_218 ?_
                refine lv_lload hx hb dX4_write_219 (lv_at hl 1 rfl) ?_
                refine hs_lgt (x := HM.ws (q) (t)) (y := HM.lr (q) (k)) (tgt := 235) hx hb dX4_write_221 dX4_write_222 (by decide) (fun c_3 => ?_) (fun c_3 => ?_)
                · have hP : va_P D vwCl (hm_mem bd cy (q.wr2 t k)) H := by rw [hw2, ← hs_pu_neg q c_3]; exact hP
                  have hD := hm_D ho cy (q.wr2 t k)
                  refine lv_aload_n hx hb dX4_write_235 rfl (lv_at hl 2 rfl) ?_
                  refine hm_gf G in_X4_write_X4 hP rfl 15 (by decide) (by decide +kernel) (.ref (bd 14)) rfl rfl dX4_write_236 ?_
                  refine lv_iload_n hx hb dX4_write_239 rfl (lv_at hl 4 rfl) ?_
                  refine lv_iload_n hx hb dX4_write_240 rfl (lv_at hl 3 rfl) ?_
                  refine lv_iconst (v := 1) hx hb dX4_write_241 (by decide) ?_
                  refine lv_iadd hx hb dX4_write_242 ?_
                  rw [show ((nI t + 1)) = nI (t + 1) from nI_1 t]
                  refine hm_sI G hP hD hS 14 (hm_hd (HM.wr2 q t k)) 16 rfl (k) (nI_clamp (by omega)) (hs_inN (by omega) (by decide)) (hm_mem bd cy (HM.u_hd (HM.wr2 q t k) (k) (some (t)))) hm_s_hdS dX4_write_243 (fun H locs hP hD hS => ?_)
                  refine lv_aload_n hx hb dX4_write_244 rfl (lv_at hl 2 rfl) ?_
                  refine hm_gf G in_X4_write_X4 hP rfl 16 (by decide) (by decide +kernel) (.ref (bd 15)) rfl rfl dX4_write_245 ?_
                  refine lv_iload_n hx hb dX4_write_248 rfl (lv_at hl 4 rfl) ?_
                  refine lv_iload_n hx hb dX4_write_249 rfl (lv_at hl 7 rfl) ?_
                  refine hm_sI G hP hD hS 15 (HM.pl (HM.u_hd (HM.wr2 q t k) (k) (some (t)))) 16 rfl (k) (nI_clamp (by omega)) (hs_inN (by omega) (by decide)) (hm_mem bd cy (HM.u_pl (HM.u_hd (HM.wr2 q t k) (k) (some (t))) (k) (v))) hm_s_pl dX4_write_250 (fun H locs hP hD hS => ?_)
                  exact JE H locs hP hS ls (lv_sub hl [2, 5, 6, 8] rfl)
                · refine lv_aload_n hx hb dX4_write_225 rfl (lv_at hl 2 rfl) ?_
                  refine hm_gf G in_X4_write_X4 hP rfl 7 (by decide) (by decide +kernel) (.ref (bd 8)) rfl rfl dX4_write_226 ?_
                  refine lv_iload_n hx hb dX4_write_229 rfl (lv_at hl 3 rfl) ?_
                  refine lv_lload hx hb dX4_write_230 (lv_at hl 1 rfl) ?_
                  refine lv_lconst (v := 1) hx hb dX4_write_232 (by decide) ?_
                  refine lv_ladd hx hb dX4_write_233 ?_
                  refine hm_sL G hP hD hS 8 (HM.ws (q)) 8 rfl (t) (nI_clamp (by omega)) (hs_inN (by omega) (by decide)) (hm_mem bd cy (HM.u_ws (q) (t) ((HM.lr (q) (k) + 1)))) hm_s_ws dX4_write_234 (fun H locs hP hD hS => ?_)
                  have hP : va_P D vwCl (hm_mem bd cy (q.wr2 t k)) H := by rw [hw2, ← hs_pu_pos q c_3]; exact hP
                  have hD := hm_D ho cy (q.wr2 t k)
                  refine lv_aload_n hx hb dX4_write_235 rfl (lv_at hl 2 rfl) ?_
                  refine hm_gf G in_X4_write_X4 hP rfl 15 (by decide) (by decide +kernel) (.ref (bd 14)) rfl rfl dX4_write_236 ?_
                  refine lv_iload_n hx hb dX4_write_239 rfl (lv_at hl 4 rfl) ?_
                  refine lv_iload_n hx hb dX4_write_240 rfl (lv_at hl 3 rfl) ?_
                  refine lv_iconst (v := 1) hx hb dX4_write_241 (by decide) ?_
                  refine lv_iadd hx hb dX4_write_242 ?_
                  rw [show ((nI t + 1)) = nI (t + 1) from nI_1 t]
                  refine hm_sI G hP hD hS 14 (hm_hd (HM.wr2 q t k)) 16 rfl (k) (nI_clamp (by omega)) (hs_inN (by omega) (by decide)) (hm_mem bd cy (HM.u_hd (HM.wr2 q t k) (k) (some (t)))) hm_s_hdS dX4_write_243 (fun H locs hP hD hS => ?_)
                  refine lv_aload_n hx hb dX4_write_244 rfl (lv_at hl 2 rfl) ?_
                  refine hm_gf G in_X4_write_X4 hP rfl 16 (by decide) (by decide +kernel) (.ref (bd 15)) rfl rfl dX4_write_245 ?_
                  refine lv_iload_n hx hb dX4_write_248 rfl (lv_at hl 4 rfl) ?_
                  refine lv_iload_n hx hb dX4_write_249 rfl (lv_at hl 7 rfl) ?_
                  refine hm_sI G hP hD hS 15 (HM.pl (HM.u_hd (HM.wr2 q t k) (k) (some (t)))) 16 rfl (k) (nI_clamp (by omega)) (hs_inN (by omega) (by decide)) (hm_mem bd cy (HM.u_pl (HM.u_hd (HM.wr2 q t k) (k) (some (t))) (k) (v))) hm_s_pl dX4_write_250 (fun H locs hP hD hS => ?_)
                  exact JE H locs hP hS ls (lv_sub hl [2, 5, 6, 8] rfl)
              · obtain ⟨j, h_j⟩ : ∃ j, hs_fi (hm_vk (q)) (hm_va (q)) (nI k) (0) (9223372036854775807) (HM.vs (q)).length = some j := Option.ne_none_iff_exists'.mp (fun q => c_2 ((hs_ix_neg (fun u q => by have := (hs_fi_lt q).1; omega)).mpr q))
                have hl_j := (hs_fi_lt h_j).1
                have hx_j : hs_ix (hs_fi (hm_vk (q)) (hm_va (q)) (nI k) (0) (9223372036854775807) (HM.vs (q)).length) = nI j := by rw [h_j]; rfl
                have hgs : hs_gs (hs_best (-1) 9223372036854775807 (q.vk k)) = hm_va q j := by rw [← hb0, hbf, h_j]; rfl
                refine lv_aload_n hx hb dX4_write_191 rfl (lv_at hl 2 rfl) ?_
                refine hm_gf G in_X4_write_X4 hP rfl 19 (by decide) (by decide +kernel) (.ref (bd 17)) rfl rfl dX4_write_192 ?_
                refine lv_iload hx hb dX4_write_195 (lv_at hl 0 rfl) ?_
                refine hm_lL G hP 17 (hm_va (q)) 256 rfl (j) (by rw [hx_j]; exact nI_clamp (by omega)) (by rw [hx_j]; exact hs_inN (by omega) (by decide)) (hm_va (q) (j)) rfl dX4_write_197 ?_
                refine lv_lload hx hb dX4_write_198 (lv_at hl 1 rfl) ?_
                refine hs_lle (x := hm_va (q) (j)) (y := HM.lr (q) (k)) (tgt := 213) hx hb dX4_write_200 dX4_write_201 (by decide) (fun c_4 => ?_) (fun c_4 => ?_)
                · have hfl : (if q.lr k < hs_gs (hs_best (-1) 9223372036854775807 (q.vk k)) then hs_gs (hs_best (-1) 9223372036854775807 (q.vk k)) else q.lr k) = HM.lr (q) (k) := by rw [hgs]; exact if_neg c_4
                  have hw2 := hI3.wr2' (t := t) (by omega) hk
                  rw [hfl] at hw2
                  refine lv_aload_n hx hb dX4_write_213 rfl (lv_at hl 2 rfl) ?_
                  refine hm_gf G in_X4_write_X4 hP rfl 7 (by decide) (by decide +kernel) (.ref (bd 8)) rfl rfl dX4_write_214 ?_
                  refine lv_iload_n hx hb dX4_write_217 rfl (lv_at hl 3 rfl) ?_
                  refine hm_lL G hP 8 (HM.ws (q)) 8 rfl (t) (nI_clamp (by omega)) (hs_inN (by omega) (by decide)) (HM.ws (q) (t)) rfl dX4_write_218 ?_
                  refine lv_lload hx hb dX4_write_219 (lv_at hl 1 rfl) ?_
                  refine hs_lgt (x := HM.ws (q) (t)) (y := HM.lr (q) (k)) (tgt := 235) hx hb dX4_write_221 dX4_write_222 (by decide) (fun c_5 => ?_) (fun c_5 => ?_)
                  · have hP : va_P D vwCl (hm_mem bd cy (q.wr2 t k)) H := by rw [hw2, ← hs_pu_neg q c_5]; exact hP
                    have hD := hm_D ho cy (q.wr2 t k)
                    refine lv_aload_n hx hb dX4_write_235 rfl (lv_at hl 2 rfl) ?_
                    refine hm_gf G in_X4_write_X4 hP rfl 15 (by decide) (by decide +kernel) (.ref (bd 14)) rfl rfl dX4_write_236 ?_
                    refine lv_iload_n hx hb dX4_write_239 rfl (lv_at hl 4 rfl) ?_
                    refine lv_iload_n hx hb dX4_write_240 rfl (lv_at hl 3 rfl) ?_
                    refine lv_iconst (v := 1) hx hb dX4_write_241 (by decide) ?_
                    refine lv_iadd hx hb dX4_write_242 ?_
                    rw [show ((nI t + 1)) = nI (t + 1) from nI_1 t]
                    refine hm_sI G hP hD hS 14 (hm_hd (HM.wr2 q t k)) 16 rfl (k) (nI_clamp (by omega)) (hs_inN (by omega) (by decide)) (hm_mem bd cy (HM.u_hd (HM.wr2 q t k) (k) (some (t)))) hm_s_hdS dX4_write_243 (fun H locs hP hD hS => ?_)
                    refine lv_aload_n hx hb dX4_write_244 rfl (lv_at hl 2 rfl) ?_
                    refine hm_gf G in_X4_write_X4 hP rfl 16 (by decide) (by decide +kernel) (.ref (bd 15)) rfl rfl dX4_write_245 ?_
                    refine lv_iload_n hx hb dX4_write_248 rfl (lv_at hl 4 rfl) ?_
                    refine lv_iload_n hx hb dX4_write_249 rfl (lv_at hl 7 rfl) ?_
                    refine hm_sI G hP hD hS 15 (HM.pl (HM.u_hd (HM.wr2 q t k) (k) (some (t)))) 16 rfl (k) (nI_clamp (by omega)) (hs_inN (by omega) (by decide)) (hm_mem bd cy (HM.u_pl (HM.u_hd (HM.wr2 q t k) (k) (some (t))) (k) (v))) hm_s_pl dX4_write_250 (fun H locs hP hD hS => ?_)
                    exact JE H locs hP hS ls (lv_sub hl [2, 5, 6, 8] rfl)
                  · refine lv_aload_n hx hb dX4_write_225 rfl (lv_at hl 2 rfl) ?_
                    refine hm_gf G in_X4_write_X4 hP rfl 7 (by decide) (by decide +kernel) (.ref (bd 8)) rfl rfl dX4_write_226 ?_
                    refine lv_iload_n hx hb dX4_write_229 rfl (lv_at hl 3 rfl) ?_
                    refine lv_lload hx hb dX4_write_230 (lv_at hl 1 rfl) ?_
                    refine lv_lconst (v := 1) hx hb dX4_write_232 (by decide) ?_
                    refine lv_ladd hx hb dX4_write_233 ?_
                    refine hm_sL G hP hD hS 8 (HM.ws (q)) 8 rfl (t) (nI_clamp (by omega)) (hs_inN (by omega) (by decide)) (hm_mem bd cy (HM.u_ws (q) (t) ((HM.lr (q) (k) + 1)))) hm_s_ws dX4_write_234 (fun H locs hP hD hS => ?_)
                    have hP : va_P D vwCl (hm_mem bd cy (q.wr2 t k)) H := by rw [hw2, ← hs_pu_pos q c_5]; exact hP
                    have hD := hm_D ho cy (q.wr2 t k)
                    refine lv_aload_n hx hb dX4_write_235 rfl (lv_at hl 2 rfl) ?_
                    refine hm_gf G in_X4_write_X4 hP rfl 15 (by decide) (by decide +kernel) (.ref (bd 14)) rfl rfl dX4_write_236 ?_
                    refine lv_iload_n hx hb dX4_write_239 rfl (lv_at hl 4 rfl) ?_
                    refine lv_iload_n hx hb dX4_write_240 rfl (lv_at hl 3 rfl) ?_
                    refine lv_iconst (v := 1) hx hb dX4_write_241 (by decide) ?_
                    refine lv_iadd hx hb dX4_write_242 ?_
                    rw [show ((nI t + 1)) = nI (t + 1) from nI_1 t]
                    refine hm_sI G hP hD hS 14 (hm_hd (HM.wr2 q t k)) 16 rfl (k) (nI_clamp (by omega)) (hs_inN (by omega) (by decide)) (hm_mem bd cy (HM.u_hd (HM.wr2 q t k) (k) (some (t)))) hm_s_hdS dX4_write_243 (fun H locs hP hD hS => ?_)
                    refine lv_aload_n hx hb dX4_write_244 rfl (lv_at hl 2 rfl) ?_
                    refine hm_gf G in_X4_write_X4 hP rfl 16 (by decide) (by decide +kernel) (.ref (bd 15)) rfl rfl dX4_write_245 ?_
                    refine lv_iload_n hx hb dX4_write_248 rfl (lv_at hl 4 rfl) ?_
                    refine lv_iload_n hx hb dX4_write_249 rfl (lv_at hl 7 rfl) ?_
                    refine hm_sI G hP hD hS 15 (HM.pl (HM.u_hd (HM.wr2 q t k) (k) (some (t)))) 16 rfl (k) (nI_clamp (by omega)) (hs_inN (by omega) (by decide)) (hm_mem bd cy (HM.u_pl (HM.u_hd (HM.wr2 q t k) (k) (some (t))) (k) (v))) hm_s_pl dX4_write_250 (fun H locs hP hD hS => ?_)
                    exact JE H locs hP hS ls (lv_sub hl [2, 5, 6, 8] rfl)
                · refine lv_aload_n hx hb dX4_write_204 rfl (lv_at hl 2 rfl) ?_
                  refine hm_gf G in_X4_write_X4 hP rfl 19 (by decide) (by decide +kernel) (.ref (bd 17)) rfl rfl dX4_write_205 ?_
                  refine lv_iload hx hb dX4_write_208 (lv_at hl 0 rfl) ?_
                  refine hm_lL G hP 17 (hm_va (q)) 256 rfl (j) (by rw [hx_j]; exact nI_clamp (by omega)) (by rw [hx_j]; exact hs_inN (by omega) (by decide)) (hm_va (q) (j)) rfl dX4_write_210 ?_
                  refine lv_lstore (lv' := [(9, .long (hm_va (q) (j))), (11, .int (hs_ix (hs_fi (hm_vk (q)) (hm_va (q)) (nI k) (0) (9223372036854775807) (HM.vs (q)).length))), (0, .ref (bd 0)), (1, .int (nI t)), (2, .int (nI k)), (5, .int (nI g)), (6, .int (nI (k % 4))), (3, .int (v)), (7, .int (0))]) hx hb dX4_write_211 hl (by decide) rfl (fun ls hl => ?_)
                  have hfl : (if q.lr k < hs_gs (hs_best (-1) 9223372036854775807 (q.vk k)) then hs_gs (hs_best (-1) 9223372036854775807 (q.vk k)) else q.lr k) = hm_va (q) (j) := by rw [hgs]; exact if_pos c_4
                  have hw2 := hI3.wr2' (t := t) (by omega) hk
                  rw [hfl] at hw2
                  refine lv_aload_n hx hb dX4_write_213 rfl (lv_at hl 2 rfl) ?_
                  refine hm_gf G in_X4_write_X4 hP rfl 7 (by decide) (by decide +kernel) (.ref (bd 8)) rfl rfl dX4_write_214 ?_
                  refine lv_iload_n hx hb dX4_write_217 rfl (lv_at hl 3 rfl) ?_
                  refine hm_lL G hP 8 (HM.ws (q)) 8 rfl (t) (nI_clamp (by omega)) (hs_inN (by omega) (by decide)) (HM.ws (q) (t)) rfl dX4_write_218 ?_
                  refine lv_lload hx hb dX4_write_219 (lv_at hl 0 rfl) ?_
                  refine hs_lgt (x := HM.ws (q) (t)) (y := hm_va (q) (j)) (tgt := 235) hx hb dX4_write_221 dX4_write_222 (by decide) (fun c_6 => ?_) (fun c_6 => ?_)
                  · have hP : va_P D vwCl (hm_mem bd cy (q.wr2 t k)) H := by rw [hw2, ← hs_pu_neg q c_6]; exact hP
                    have hD := hm_D ho cy (q.wr2 t k)
                    refine lv_aload_n hx hb dX4_write_235 rfl (lv_at hl 2 rfl) ?_
                    refine hm_gf G in_X4_write_X4 hP rfl 15 (by decide) (by decide +kernel) (.ref (bd 14)) rfl rfl dX4_write_236 ?_
                    refine lv_iload_n hx hb dX4_write_239 rfl (lv_at hl 4 rfl) ?_
                    refine lv_iload_n hx hb dX4_write_240 rfl (lv_at hl 3 rfl) ?_
                    refine lv_iconst (v := 1) hx hb dX4_write_241 (by decide) ?_
                    refine lv_iadd hx hb dX4_write_242 ?_
                    rw [show ((nI t + 1)) = nI (t + 1) from nI_1 t]
                    refine hm_sI G hP hD hS 14 (hm_hd (HM.wr2 q t k)) 16 rfl (k) (nI_clamp (by omega)) (hs_inN (by omega) (by decide)) (hm_mem bd cy (HM.u_hd (HM.wr2 q t k) (k) (some (t)))) hm_s_hdS dX4_write_243 (fun H locs hP hD hS => ?_)
                    refine lv_aload_n hx hb dX4_write_244 rfl (lv_at hl 2 rfl) ?_
                    refine hm_gf G in_X4_write_X4 hP rfl 16 (by decide) (by decide +kernel) (.ref (bd 15)) rfl rfl dX4_write_245 ?_
                    refine lv_iload_n hx hb dX4_write_248 rfl (lv_at hl 4 rfl) ?_
                    refine lv_iload_n hx hb dX4_write_249 rfl (lv_at hl 7 rfl) ?_
                    refine hm_sI G hP hD hS 15 (HM.pl (HM.u_hd (HM.wr2 q t k) (k) (some (t)))) 16 rfl (k) (nI_clamp (by omega)) (hs_inN (by omega) (by decide)) (hm_mem bd cy (HM.u_pl (HM.u_hd (HM.wr2 q t k) (k) (some (t))) (k) (v))) hm_s_pl dX4_write_250 (fun H locs hP hD hS => ?_)
                    exact JE H locs hP hS ls (lv_sub hl [2, 5, 6, 8] rfl)
                  · refine lv_aload_n hx hb dX4_write_225 rfl (lv_at hl 2 rfl) ?_
                    refine hm_gf G in_X4_write_X4 hP rfl 7 (by decide) (by decide +kernel) (.ref (bd 8)) rfl rfl dX4_write_226 ?_
                    refine lv_iload_n hx hb dX4_write_229 rfl (lv_at hl 3 rfl) ?_
                    refine lv_lload hx hb dX4_write_230 (lv_at hl 0 rfl) ?_
                    refine lv_lconst (v := 1) hx hb dX4_write_232 (by decide) ?_
                    refine lv_ladd hx hb dX4_write_233 ?_
                    refine hm_sL G hP hD hS 8 (HM.ws (q)) 8 rfl (t) (nI_clamp (by omega)) (hs_inN (by omega) (by decide)) (hm_mem bd cy (HM.u_ws (q) (t) ((hm_va (q) (j) + 1)))) hm_s_ws dX4_write_234 (fun H locs hP hD hS => ?_)
                    have hP : va_P D vwCl (hm_mem bd cy (q.wr2 t k)) H := by rw [hw2, ← hs_pu_pos q c_6]; exact hP
                    have hD := hm_D ho cy (q.wr2 t k)
                    refine lv_aload_n hx hb dX4_write_235 rfl (lv_at hl 2 rfl) ?_
                    refine hm_gf G in_X4_write_X4 hP rfl 15 (by decide) (by decide +kernel) (.ref (bd 14)) rfl rfl dX4_write_236 ?_
                    refine lv_iload_n hx hb dX4_write_239 rfl (lv_at hl 4 rfl) ?_
                    refine lv_iload_n hx hb dX4_write_240 rfl (lv_at hl 3 rfl) ?_
                    refine lv_iconst (v := 1) hx hb dX4_write_241 (by decide) ?_
                    refine lv_iadd hx hb dX4_write_242 ?_
                    rw [show ((nI t + 1)) = nI (t + 1) from nI_1 t]
                    refine hm_sI G hP hD hS 14 (hm_hd (HM.wr2 q t k)) 16 rfl (k) (nI_clamp (by omega)) (hs_inN (by omega) (by decide)) (hm_mem bd cy (HM.u_hd (HM.wr2 q t k) (k) (some (t)))) hm_s_hdS dX4_write_243 (fun H locs hP hD hS => ?_)
                    refine lv_aload_n hx hb dX4_write_244 rfl (lv_at hl 2 rfl) ?_
                    refine hm_gf G in_X4_write_X4 hP rfl 16 (by decide) (by decide +kernel) (.ref (bd 15)) rfl rfl dX4_write_245 ?_
                    refine lv_iload_n hx hb dX4_write_248 rfl (lv_at hl 4 rfl) ?_
                    refine lv_iload_n hx hb dX4_write_249 rfl (lv_at hl 7 rfl) ?_
                    refine hm_sI G hP hD hS 15 (HM.pl (HM.u_hd (HM.wr2 q t k) (k) (some (t)))) 16 rfl (k) (nI_clamp (by omega)) (hs_inN (by omega) (by decide)) (hm_mem bd cy (HM.u_pl (HM.u_hd (HM.wr2 q t k) (k) (some (t))) (k) (v))) hm_s_pl dX4_write_250 (fun H locs hP hD hS => ?_)
                    exact JE H locs hP hS ls (lv_sub hl [2, 5, 6, 8] rfl)
            · have hf : 16 ≤ (q.vk k).length := by have z := (nI_eq (b := 16) (by omega) (by decide)).mp (hv.symm.trans c_1); omega
              rw [if_pos hf, if_pos hf] at JE
              refine lv_bipush (v := (-7)) hx hb dX4_write_160 (by decide) ?_
              refine lv_istore (lv' := [(7, .int ((-7))), (0, .ref (bd 0)), (1, .int (nI t)), (2, .int (nI k)), (5, .int (nI g)), (6, .int (nI (k % 4))), (3, .int (v))]) hx hb dX4_write_162 hl (by decide) rfl (fun ls hl => ?_)
              refine lv_goto (tgt := 251) hx hb dX4_write_164 (by decide) ?_
              exact JE H locs hP hS ls (lv_sub hl [1, 4, 5, 0] rfl)
          refine lv_aload_n hx hb dX4_write_72 rfl (lv_at hl 0 rfl) ?_
          refine hm_gf G in_X4_write_X4 hP rfl 15 (by decide) (by decide +kernel) (.ref (bd 14)) rfl rfl dX4_write_73 ?_
          refine lv_iload_n hx hb dX4_write_76 rfl (lv_at hl 2 rfl) ?_
          refine hm_lI G hP 14 (hm_hd (y)) 16 rfl (k) (nI_clamp (by omega)) (hs_inN (by omega) (by decide)) (hm_ho (HM.hd (y) (k))) rfl dX4_write_77 ?_
          refine lv_iload_n hx hb dX4_write_78 rfl (lv_at hl 1 rfl) ?_
          refine lv_iconst (v := 1) hx hb dX4_write_79 (by decide) ?_
          refine lv_iadd hx hb dX4_write_80 ?_
          rw [show ((nI t + 1)) = nI (t + 1) from nI_1 t]
          refine lv_icmp_ne (tgt := 94) hx hb dX4_write_81 (by decide) (fun c_1 => ?_) (fun c_1 => ?_)
          · refine lv_aload_n hx hb dX4_write_94 rfl (lv_at hl 0 rfl) ?_
            refine lv_iload_n hx hb dX4_write_95 rfl (lv_at hl 2 rfl) ?_
            refine hs_callV (n := 1) (As := [.int (nI k)]) (rest := []) G hml (r_meet l D cy bd ho (y) _ (hIy) (hk) (t := t) (he)) gX4_write_X4_meet rfl rfl rfl (by decide +kernel) ⟨Nat.le_of_ble_eq_true rfl, Nat.le_of_ble_eq_true rfl⟩ (q0 := 0) (ci := 4) (fs := hm_objL bd (y)) rfl rfl rfl rfl hl.1 (Nat.le_of_ble_eq_true rfl) ⟨Nat.zero_le _, Nat.zero_le _⟩ hP hS (fun _ h => h) rfl dX4_write_96 (fun H locs hP hS _ _ => ?_)
            have hD := hm_D ho cy (HM.look (y) (t) (k))
            refine lv_istore (lv' := [(8, .int (hs_ix (HM.lkU (y) (t) (k)))), (0, .ref (bd 0)), (1, .int (nI t)), (2, .int (nI k)), (5, .int (nI g)), (6, .int (nI (k % 4))), (3, .int (v)), (7, .int (0))]) hx hb dX4_write_99 hl (by decide) rfl (fun ls hl => ?_)
            refine lv_iload hx hb dX4_write_101 (lv_at hl 0 rfl) ?_
            refine lv_if_lt (tgt := 130) hx hb dX4_write_103 (by decide) (fun c_2 => ?_) (fun c_2 => ?_)
            · have h_u : HM.lkU (y) (t) (k) = none := (hs_ix_neg (fun u q => by have := hIy.lkU hk q; omega)).mp c_2
              have hnb : y.wrB t k = false := by rw [HM.wrB, h_u]
              refine lv_iload hx hb dX4_write_130 (lv_at hl 0 rfl) ?_
              refine lv_if_lt (tgt := 150) hx hb dX4_write_132 (by decide) (fun c_3 => ?_) (fun c_3 => ?_)
              · exact J150 hnb H locs (by rw [HM.wr1, h_u]; exact hP) hS ls (lv_sub hl [1, 2, 3, 4, 5, 6, 7] rfl)
              · exact absurd ((hs_ix_neg (fun u q => by have := hIy.lkU hk q; omega)).mpr h_u) c_3
            · obtain ⟨u, h_u⟩ : ∃ u, HM.lkU (y) (t) (k) = some u := Option.ne_none_iff_exists'.mp (fun q => c_2 ((hs_ix_neg (fun u q => by have := hIy.lkU hk q; omega)).mpr q))
              have hl_u := hIy.lkU hk h_u
              have hx_u : hs_ix (HM.lkU (y) (t) (k)) = nI u := by rw [h_u]; rfl
              refine lv_aload_n hx hb dX4_write_106 rfl (lv_at hl 1 rfl) ?_
              refine hm_gf G in_X4_write_X4 hP rfl 5 (by decide) (by decide +kernel) (.ref (bd 6)) rfl rfl dX4_write_107 ?_
              refine lv_iload_n hx hb dX4_write_110 rfl (lv_at hl 2 rfl) ?_
              refine hm_lL G hP 6 (hm_bi (HM.look (y) (t) (k))) 8 rfl (t) (nI_clamp (by omega)) (hs_inN (by omega) (by decide)) (lN (HM.bi (HM.look (y) (t) (k)) (t))) rfl dX4_write_111 ?_
              refine lv_aload_n hx hb dX4_write_112 rfl (lv_at hl 1 rfl) ?_
              refine hm_gf G in_X4_write_X4 hP rfl 5 (by decide) (by decide +kernel) (.ref (bd 6)) rfl rfl dX4_write_113 ?_
              refine lv_iload hx hb dX4_write_116 (lv_at hl 0 rfl) ?_
              refine hm_lL G hP 6 (hm_bi (HM.look (y) (t) (k))) 8 rfl (u) (by rw [hx_u]; exact nI_clamp (by omega)) (by rw [hx_u]; exact hs_inN (by omega) (by decide)) (lN (HM.bi (HM.look (y) (t) (k)) (u))) rfl dX4_write_118 ?_
              refine hs_lle (x := lN (HM.bi (HM.look (y) (t) (k)) (t))) (y := lN (HM.bi (HM.look (y) (t) (k)) (u))) (tgt := 130) hx hb dX4_write_119 dX4_write_120 (by decide) (fun c_4 => ?_) (fun c_4 => ?_)
              · have hb1 : (y.look t k).bi u < 2 ^ 31 := by rw [hs_look_bi]; exact hby u hl_u
                have hb2 : (y.look t k).bi t < 2 ^ 31 := by rw [hs_look_bi]; exact hby t ht
                have hnb : y.wrB t k = false := by rw [HM.wrB, h_u]; exact decide_eq_false (fun z => c_4 ((hs_birth hb1 hb2).mpr z))
                refine lv_iload hx hb dX4_write_130 (lv_at hl 0 rfl) ?_
                refine lv_if_lt (tgt := 150) hx hb dX4_write_132 (by decide) (fun c_5 => ?_) (fun c_5 => ?_)
                · exact absurd ((hs_ix_neg (fun u q => by have := hIy.lkU hk q; omega)).mp c_5) (by rw [h_u]; exact fun z => by cases z)
                · refine lv_aload_n hx hb dX4_write_135 rfl (lv_at hl 1 rfl) ?_
                  refine lv_iload hx hb dX4_write_136 (lv_at hl 0 rfl) ?_
                  rw [hx_u]
                  refine lv_lconst (v := 0) hx hb dX4_write_138 (by decide) ?_
                  refine hs_callV (n := 2) (As := [.int (nI u), .long (0)]) (rest := []) G hml (r_restart l D cy bd ho (HM.look (y) (t) (k)) (fun _ h => hIl.hd h) (show u < 8 by omega) (0)) gX4_write_X4_restart rfl rfl rfl (by decide +kernel) ⟨Nat.le_of_ble_eq_true rfl, Nat.le_of_ble_eq_true rfl⟩ (q0 := 0) (ci := 4) (fs := hm_objL bd (HM.look (y) (t) (k))) rfl rfl rfl rfl hl.1 (Nat.le_of_ble_eq_true rfl) ⟨Nat.zero_le _, Nat.zero_le _⟩ hP hS (fun _ h => h) rfl dX4_write_139 (fun H locs hP hS _ _ => ?_)
                  have hD := hm_D ho cy (HM.re (HM.look (y) (t) (k)) (u) (0))
                  refine lv_aload_n hx hb dX4_write_142 rfl (lv_at hl 1 rfl) ?_
                  refine hm_gf G in_X4_write_X4 hP rfl 9 (by decide) (by decide +kernel) (.ref (bd 10)) rfl rfl dX4_write_143 ?_
                  refine lv_iload hx hb dX4_write_146 (lv_at hl 0 rfl) ?_
                  refine lv_iconst (v := 1) hx hb dX4_write_148 (by decide) ?_
                  refine hm_sZ G hP hD hS 10 (HM.hu (HM.re (HM.look (y) (t) (k)) (u) (0))) 8 rfl (u) (by rw [hx_u]; exact nI_clamp (by omega)) (by rw [hx_u]; exact hs_inN (by omega) (by decide)) (by decide) (hm_mem bd cy (HM.u_hu (HM.re (HM.look (y) (t) (k)) (u) (0)) (u) (1))) hm_s_hu dX4_write_149 (fun H locs hP hD hS => ?_)
                  exact J150 hnb H locs (by rw [HM.wr1, h_u]; exact hP) hS ls (lv_sub hl [1, 2, 3, 4, 5, 6, 7] rfl)
              · have hb1 : (y.look t k).bi u < 2 ^ 31 := by rw [hs_look_bi]; exact hby u hl_u
                have hb2 : (y.look t k).bi t < 2 ^ 31 := by rw [hs_look_bi]; exact hby t ht
                have hyb : y.wrB t k = true := by rw [HM.wrB, h_u]; exact decide_eq_true ((hs_birth hb1 hb2).mp c_4)
                refine lv_bipush (v := (-5)) hx hb dX4_write_123 (by decide) ?_
                refine lv_istore (lv' := [(7, .int ((-5))), (8, .int (hs_ix (HM.lkU (y) (t) (k)))), (0, .ref (bd 0)), (1, .int (nI t)), (2, .int (nI k)), (5, .int (nI g)), (6, .int (nI (k % 4))), (3, .int (v))]) hx hb dX4_write_125 hl (by decide) rfl (fun ls hl => ?_)
                refine lv_goto (tgt := 251) hx hb dX4_write_127 (by decide) ?_
                rw [if_pos hyb, if_pos hyb] at JE
                exact JE H locs hP hS ls (lv_sub hl [2, 5, 6, 0] rfl)
          · exact absurd ((hm_ho_eq ht (hIy.hd hk)).mp c_1) he
      refine lv_iload_n hx hb dX4_write_0 rfl (lv_at hl 1 rfl) ?_
      refine lv_if_lt (tgt := 20) hx hb dX4_write_1 (by decide) (fun c_1 => ?_) (fun c_1 => ?_)
      · exact absurd c_1 (nI_pos (by omega))
      · refine lv_iload_n hx hb dX4_write_4 rfl (lv_at hl 1 rfl) ?_
        refine lv_bipush (v := 7) hx hb dX4_write_5 (by decide) ?_
        refine lv_icmp_gt (tgt := 20) hx hb dX4_write_7 (by decide) (fun c_2 => ?_) (fun c_2 => ?_)
        · exact absurd c_2 (hs_le_in ht (by decide))
        · refine lv_iload_n hx hb dX4_write_10 rfl (lv_at hl 2 rfl) ?_
          refine lv_if_lt (tgt := 20) hx hb dX4_write_11 (by decide) (fun c_3 => ?_) (fun c_3 => ?_)
          · exact absurd c_3 (nI_pos (by omega))
          · refine lv_iload_n hx hb dX4_write_14 rfl (lv_at hl 2 rfl) ?_
            refine lv_bipush (v := 15) hx hb dX4_write_15 (by decide) ?_
            refine lv_icmp_le (tgt := 22) hx hb dX4_write_17 (by decide) (fun c_4 => ?_) (fun c_4 => ?_)
            · refine lv_aload_n hx hb dX4_write_22 rfl (lv_at hl 0 rfl) ?_
              refine lv_iload_n hx hb dX4_write_23 rfl (lv_at hl 1 rfl) ?_
              refine hs_callV (n := 1) (As := [.int (nI t)]) (rest := []) G hml (r_stopped l D cy bd ho (x) (hph) (nI t)) gX4_write_X4_stopped rfl rfl rfl (by decide +kernel) ⟨Nat.le_of_ble_eq_true rfl, Nat.le_of_ble_eq_true rfl⟩ (q0 := 0) (ci := 4) (fs := hm_objL bd (x)) rfl rfl rfl rfl hl.1 (Nat.le_of_ble_eq_true rfl) ⟨Nat.zero_le _, Nat.zero_le _⟩ hP hS (fun _ h => h) rfl dX4_write_24 (fun H locs hP hS _ _ => ?_)
              have hD := hm_D ho cy (HM.stopM (x) (nI t))
              rw [sM] at hP
              have hD := hm_D ho cy (x.stp t)
              refine lv_istore (lv' := [(4, .int (HM.stopA (x) (nI t))), (0, .ref (bd 0)), (1, .int (nI t)), (2, .int (nI k)), (3, .int (v))]) hx hb dX4_write_27 hl (by decide) rfl (fun ls hl => ?_)
              refine lv_iload hx hb dX4_write_29 (lv_at hl 0 rfl) ?_
              refine lv_if_eq (tgt := 37) hx hb dX4_write_31 (by decide) (fun c_5 => ?_) (fun c_5 => ?_)
              · have hc0 : x.stc t = 0 := sA.symm.trans c_5
                have eA' := eA.trans (if_pos hc0)
                have eM' := eM.trans (if_pos hc0)
                refine lv_aload_n hx hb dX4_write_37 rfl (lv_at hl 1 rfl) ?_
                refine hm_gf G in_X4_write_X4 hP rfl 3 (by decide) (by decide +kernel) (.ref (bd 4)) rfl rfl dX4_write_38 ?_
                refine lv_iload_n hx hb dX4_write_41 rfl (lv_at hl 2 rfl) ?_
                refine hm_lI G hP 4 (hm_gt (HM.stp x t)) 8 rfl (t) (nI_clamp (by omega)) (hs_inN (by omega) (by decide)) (nI (HM.gt (HM.stp x t) (t))) rfl dX4_write_42 ?_
                refine lv_istore (lv' := [(5, .int (nI (HM.gt (HM.stp x t) (t)))), (4, .int (HM.stopA (x) (nI t))), (0, .ref (bd 0)), (1, .int (nI t)), (2, .int (nI k)), (3, .int (v))]) hx hb dX4_write_43 hl (by decide) rfl (fun ls hl => ?_)
                refine lv_iload_n hx hb dX4_write_45 rfl (lv_at hl 4 rfl) ?_
                refine lv_iconst (v := 3) hx hb dX4_write_46 (by decide) ?_
                refine lv_iand hx hb dX4_write_47 ?_
                rw [show ((nI k &&& 3)) = nI (k % 4) from hs_and3 hk]
                refine lv_istore (lv' := [(6, .int (nI (k % 4))), (5, .int (nI (HM.gt (HM.stp x t) (t)))), (4, .int (HM.stopA (x) (nI t))), (0, .ref (bd 0)), (1, .int (nI t)), (2, .int (nI k)), (3, .int (v))]) hx hb dX4_write_48 hl (by decide) rfl (fun ls hl => ?_)
                refine lv_aload_n hx hb dX4_write_50 rfl (lv_at hl 3 rfl) ?_
                refine lv_iload hx hb dX4_write_51 (lv_at hl 1 rfl) ?_
                refine hs_callV (n := 1) (As := [.int (nI (HM.gt (HM.stp x t) (t)))]) (rest := []) G hml (r_event l D cy bd ho (HM.stp x t) (show HM.gt (HM.stp x t) (t) < 4 by first | omega | exact hm4)) gX4_write_X4_event rfl rfl rfl (by decide +kernel) ⟨Nat.le_of_ble_eq_true rfl, Nat.le_of_ble_eq_true rfl⟩ (q0 := 0) (ci := 4) (fs := hm_objL bd (HM.stp x t)) rfl rfl rfl rfl hl.1 (Nat.le_of_ble_eq_true rfl) ⟨Nat.zero_le _, Nat.zero_le _⟩ hP hS (fun _ h => h) rfl dX4_write_53 (fun H locs hP hS _ _ => ?_)
                have hD := hm_D ho cy (HM.ev (HM.stp x t) (HM.gt (HM.stp x t) (t)))
                refine lv_aload_n hx hb dX4_write_56 rfl (lv_at hl 3 rfl) ?_
                refine lv_iload hx hb dX4_write_57 (lv_at hl 0 rfl) ?_
                refine lv_aload_n hx hb dX4_write_59 rfl (lv_at hl 3 rfl) ?_
                refine hm_gf G in_X4_write_X4 hP rfl 1 (by decide) (by decide +kernel) (.ref (bd 2)) rfl rfl dX4_write_60 ?_
                refine lv_iload hx hb dX4_write_63 (lv_at hl 1 rfl) ?_
                refine hm_lL G hP 2 (HM.ck (HM.ev (HM.stp x t) (HM.gt (HM.stp x t) (t)))) 4 rfl (HM.gt (HM.stp x t) (t)) (nI_clamp (by omega)) (hs_inN (by omega) (by decide)) (HM.ck (HM.ev (HM.stp x t) (HM.gt (HM.stp x t) (t))) (HM.gt (HM.stp x t) (t))) rfl dX4_write_65 ?_
                refine hs_callV (n := 2) (As := [.int (nI (k % 4)), .long (HM.ck (HM.ev (HM.stp x t) (HM.gt (HM.stp x t) (t))) (HM.gt (HM.stp x t) (t)))]) (rest := []) G hml (r_receive l D cy bd ho (HM.ev (HM.stp x t) (HM.gt (HM.stp x t) (t))) (show k % 4 < 4 by first | omega | exact hm4) (HM.ck (HM.ev (HM.stp x t) (HM.gt (HM.stp x t) (t))) (HM.gt (HM.stp x t) (t)))) gX4_write_X4_receive rfl rfl rfl (by decide +kernel) ⟨Nat.le_of_ble_eq_true rfl, Nat.le_of_ble_eq_true rfl⟩ (q0 := 0) (ci := 4) (fs := hm_objL bd (HM.ev (HM.stp x t) (HM.gt (HM.stp x t) (t)))) rfl rfl rfl rfl hl.1 (Nat.le_of_ble_eq_true rfl) ⟨Nat.zero_le _, Nat.zero_le _⟩ hP hS (fun _ h => h) rfl dX4_write_66 (fun H locs hP hS _ _ => ?_)
                have hD := hm_D ho cy (HM.tk (HM.ev (HM.stp x t) (HM.gt (HM.stp x t) (t))) (k % 4) (HM.ck (HM.ev (HM.stp x t) (HM.gt (HM.stp x t) (t))) (HM.gt (HM.stp x t) (t))))
                refine lv_iconst (v := 0) hx hb dX4_write_69 (by decide) ?_
                refine lv_istore (lv' := [(7, .int (0)), (6, .int (nI (k % 4))), (5, .int (nI (HM.gt (HM.stp x t) (t)))), (4, .int (HM.stopA (x) (nI t))), (0, .ref (bd 0)), (1, .int (nI t)), (2, .int (nI k)), (3, .int (v))]) hx hb dX4_write_70 hl (by decide) rfl (fun ls hl => ?_)
                exact J73 ((x.stp t).opn t k) ((x.stp t).gt t) hI2 rfl hg0 (fun j hj => by rw [show ((x.stp t).opn t k).bi = (x.stp t).bi from rfl, hs_stp_bi]; exact hbi j hj) eA' eM' H locs hP hS ls (lv_sub hl [4, 5, 6, 2, 1, 7, 0] rfl)
              · have hc0 : ¬ x.stc t = 0 := fun q => c_5 (sA.trans q)
                have eA' := eA.trans (if_neg hc0)
                have eM' := eM.trans (if_neg hc0)
                refine lv_iload hx hb dX4_write_34 (lv_at hl 0 rfl) ?_
                exact ct_iret hx hb hr hlocks (by rw [eA', sA]) (by rw [eM']; exact hP) hS dX4_write_36
            · exact absurd (Int32.not_lt.mp (hs_le_in hk (by decide))) c_4

theorem in_X4_commit_X4 : ∀ w ∈ u_ws RX4 TX4 21, w ∈ wsX4_commit := by decide +kernel
set_option maxHeartbeats 4000000 in
set_option maxRecDepth 100000 in
/-- reference: r_commit -/
theorem r_commit (l : Launch) (D : va_G) (cy : Nat → ClassId) (bd : Nat → Nat) (ho : hm_ok bd) (x : HM) (B : Int) (hIn : x.In B) (hB : B + 200 < 4611686018427387904) (hph : hs_Ph x) (hcm : ∀ t, t < 8 → x.ph t = 1 → x.cm.length < 256) (z : Int32) : Ct l yX4_commit wsX4_commit ({ frames := 2, cells := 0, slots := 0, locals := 51 }) D cy (hm_A bd) [.ref (bd 0), .int (z)] (hm_mem bd cy (x)) (some (.int (x.commitA z))) (hm_mem bd cy (x.commitM z)) := by
  rcases hs_rng z (b := 8) (by decide) with hz | ⟨t, ht, rfl⟩
  · have sA : x.stopA z = -1 := by rw [HM.stopA, hs_n_out hz]
    have sM : x.stopM z = x := by rw [HM.stopM, hs_n_out hz]
    refine ct_of (cc := cX4_commit) (maxL := 7) (ret := (some .int)) rfl (by decide) (Nat.le_of_ble_eq_true rfl) ?_
    intro p e s m below meth c ls G hx hb hml hr hlocks hP hS hl
    have hD := hm_D ho cy (x)
    have hl : lv_has ls 7 [(0, .ref (bd 0)), (1, .int (z))] := hl
    refine lv_aload_n hx hb dX4_commit_0 rfl (lv_at hl 0 rfl) ?_
    refine lv_iload_n hx hb dX4_commit_1 rfl (lv_at hl 1 rfl) ?_
    refine hs_callV (n := 1) (As := [.int (z)]) (rest := []) G hml (r_stopped l D cy bd ho (x) (hph) (z)) gX4_commit_X4_stopped rfl rfl rfl (by decide +kernel) ⟨Nat.le_of_ble_eq_true rfl, Nat.le_of_ble_eq_true rfl⟩ (q0 := 0) (ci := 4) (fs := hm_objL bd (x)) rfl rfl rfl rfl hl.1 (Nat.le_of_ble_eq_true rfl) ⟨Nat.zero_le _, Nat.zero_le _⟩ hP hS (fun _ h => h) rfl dX4_commit_2 (fun H locs hP hS _ _ => ?_)
    have hD := hm_D ho cy (HM.stopM (x) (z))
    refine lv_istore_n (lv' := [(2, .int (HM.stopA (x) (z))), (0, .ref (bd 0)), (1, .int (z))]) hx hb dX4_commit_5 rfl hl (by decide) rfl (fun ls hl => ?_)
    refine lv_iload_n hx hb dX4_commit_6 rfl (lv_at hl 0 rfl) ?_
    refine lv_if_eq (tgt := 12) hx hb dX4_commit_7 (by decide) (fun c_1 => ?_) (fun c_1 => ?_)
    · exact absurd (sA.symm.trans c_1) (by decide)
    · refine lv_iload_n hx hb dX4_commit_10 rfl (lv_at hl 0 rfl) ?_
      exact ct_iret hx hb hr hlocks (by rw [sA, HM.commitA, hs_n_out hz]) (by rw [HM.commitM, hs_n_out hz]; rw [sM] at hP; exact hP) hS dX4_commit_11
  · have eT := hs_n_in ht (show 8 < 2 ^ 31 by decide)
    have sA : x.stopA (nI t) = x.stc t := by rw [HM.stopA, eT]
    have sM : x.stopM (nI t) = x.stp t := by rw [HM.stopM, eT]
    have eA : x.commitA (nI t) = if x.stc t = 0 then ((x.stp t).ev ((x.stp t).gt t)).cmtA t else x.stc t := by rw [HM.commitA, eT]
    have eM : x.commitM (nI t) = if x.stc t = 0 then ((x.stp t).ev ((x.stp t).gt t)).cmtM t else x.stp t := by rw [HM.commitM, eT]
    have hI0 := hIn.stp t
    have hg0 := hI0.gt ht
    have hI1 := hI0.ev (by omega) hg0
    have hc1 : x.stc t = 0 → ((x.stp t).ev ((x.stp t).gt t)).cm.length < 256 := fun q => by
      have h := hs_stc0 q
      rw [show ((x.stp t).ev ((x.stp t).gt t)).cm = (x.stp t).cm from rfl, h.2]; exact hcm t ht (hs_code0 h.1)
    refine ct_of (cc := cX4_commit) (maxL := 7) (ret := (some .int)) rfl (by decide) (Nat.le_of_ble_eq_true rfl) ?_
    intro p e s m below meth c ls G hx hb hml hr hlocks hP hS hl
    have hD := hm_D ho cy (x)
    have hl : lv_has ls 7 [(0, .ref (bd 0)), (1, .int (nI t))] := hl
    have J238 : ∀ (u : HM) (_ : u.cm.length < 256) (_ : x.commitM (nI t) = u.fin t) (_ : x.commitA (nI t) = 0) (H : Heap) (locs : List Loc), va_P D vwCl (hm_mem bd cy (u)) H → va_S (hm_A bd) s.heap H locs → ∀ ls : Array Slot, lv_has ls 7 [(0, .ref (bd 0)), (1, .int (nI t))] → W p l e ({ frames := 2, cells := 0, slots := 0, locals := 51 }) s m [.ref (bd 0), .int (nI t)].toArray below meth c H locs 0 0 (MQ below (hs_Post D (some (.int (x.commitA (nI t)))) (hm_mem bd cy (x.commitM (nI t))) (hm_A bd)) [.ref (bd 0), .int (nI t)].toArray s 0 0 (hm_A bd)) (F0 m 238 ls []) := by
      intro u hu e1 e2 H locs hP hS ls hl
      have hD := hm_D ho cy (u)
      have hcl : (HM.cm (HM.fin1 u t)).length < 256 := hu
      refine lv_aload_n hx hb dX4_commit_238 rfl (lv_at hl 0 rfl) ?_
      refine hm_gf G in_X4_commit_X4 hP rfl 6 (by decide) (by decide +kernel) (.ref (bd 7)) rfl rfl dX4_commit_239 ?_
      refine lv_iload_n hx hb dX4_commit_242 rfl (lv_at hl 1 rfl) ?_
      refine lv_aload_n hx hb dX4_commit_243 rfl (lv_at hl 0 rfl) ?_
      refine hm_gf G in_X4_commit_X4 hP rfl 7 (by decide) (by decide +kernel) (.ref (bd 8)) rfl rfl dX4_commit_244 ?_
      refine lv_iload_n hx hb dX4_commit_247 rfl (lv_at hl 1 rfl) ?_
      refine hm_lL G hP 8 (HM.ws (u)) 8 rfl (t) (nI_clamp (by omega)) (hs_inN (by omega) (by decide)) (HM.ws (u) (t)) rfl dX4_commit_248 ?_
      refine hm_sL G hP hD hS 7 (HM.rs (u)) 8 rfl (t) (nI_clamp (by omega)) (hs_inN (by omega) (by decide)) (hm_mem bd cy (HM.u_rs (u) (t) (HM.ws (u) (t)))) hm_s_rs dX4_commit_249 (fun H locs hP hD hS => ?_)
      refine lv_aload_n hx hb dX4_commit_250 rfl (lv_at hl 0 rfl) ?_
      refine hm_gf G in_X4_commit_X4 hP rfl 2 (by decide) (by decide +kernel) (.ref (bd 3)) rfl rfl dX4_commit_251 ?_
      refine lv_iload_n hx hb dX4_commit_254 rfl (lv_at hl 1 rfl) ?_
      refine lv_iconst (v := 2) hx hb dX4_commit_255 (by decide) ?_
      refine hm_sI G hP hD hS 3 (HM.ph (HM.u_rs (u) (t) (HM.ws (u) (t)))) 8 rfl (t) (nI_clamp (by omega)) (hs_inN (by omega) (by decide)) (hm_mem bd cy (HM.u_ph (HM.u_rs (u) (t) (HM.ws (u) (t))) (t) (2))) hm_s_ph dX4_commit_256 (fun H locs hP hD hS => ?_)
      have hP : va_P D vwCl (hm_mem bd cy (u.fin1 t)) H := hP
      have hD := hm_D ho cy (u.fin1 t)
      refine lv_aload_n hx hb dX4_commit_257 rfl (lv_at hl 0 rfl) ?_
      refine hm_gf G in_X4_commit_X4 hP rfl 13 (by decide) (by decide +kernel) (.ref (bd 12)) rfl rfl dX4_commit_258 ?_
      refine lv_aload_n hx hb dX4_commit_261 rfl (lv_at hl 0 rfl) ?_
      refine hm_gf G in_X4_commit_X4 hP rfl 12 (by decide) (by decide +kernel) (.int (nI (HM.cm (HM.fin1 u t)).length)) rfl rfl dX4_commit_262 ?_
      refine lv_aload_n hx hb dX4_commit_265 rfl (lv_at hl 0 rfl) ?_
      refine hm_gf G in_X4_commit_X4 hP rfl 7 (by decide) (by decide +kernel) (.ref (bd 8)) rfl rfl dX4_commit_266 ?_
      refine lv_iload_n hx hb dX4_commit_269 rfl (lv_at hl 1 rfl) ?_
      refine hm_lL G hP 8 (HM.ws (HM.fin1 u t)) 8 rfl (t) (nI_clamp (by omega)) (hs_inN (by omega) (by decide)) (HM.ws (HM.fin1 u t) (t)) rfl dX4_commit_270 ?_
      refine hm_sL G hP hD hS 12 (hm_cm (HM.fin1 u t)) 512 rfl ((HM.cm (HM.fin1 u t)).length) (nI_clamp (by omega)) (hs_inN (by omega) (by decide)) _ rfl dX4_commit_271 (fun H locs hP hD hS => ?_)
      refine lv_aload_n hx hb dX4_commit_272 rfl (lv_at hl 0 rfl) ?_
      refine lv_aload_n hx hb dX4_commit_273 rfl (lv_at hl 0 rfl) ?_
      refine hm_gf G in_X4_commit_X4 hP rfl 12 (by decide) (by decide +kernel) (.int (nI (HM.cm (HM.fin1 u t)).length)) rfl rfl dX4_commit_274 ?_
      refine lv_iconst (v := 1) hx hb dX4_commit_277 (by decide) ?_
      refine lv_iadd hx hb dX4_commit_278 ?_
      rw [show ((nI (HM.cm (HM.fin1 u t)).length + 1)) = nI ((HM.cm (HM.fin1 u t)).length + 1) from nI_1 _]
      refine hm_pf G in_X4_commit_X4 hP hD hS rfl 12 (by decide) (by decide +kernel) (.int (nI ((HM.cm (HM.fin1 u t)).length + 1))) rfl rfl (.int) (by decide +kernel) rfl rfl (Nat.le_of_ble_eq_true rfl) _ rfl dX4_commit_279 (fun H locs hP hD hS => ?_)
      have hP : va_P D vwCl (hm_mem bd cy (u.fin t)) H := by rw [HM.fin, ← hm_logC]; exact hP
      refine lv_iconst (v := 0) hx hb dX4_commit_282 (by decide) ?_
      exact ct_iret hx hb hr hlocks (by rw [e2]) (by rw [e1]; exact hP) hS dX4_commit_283
    have loop : ∀ (y : HM) (g : Nat), g < 4 → y.cm.length < 256 → ((hs_mrs t 16 0 y).2 = true → x.commitM (nI t) = (hs_mrs t 16 0 y).1.fin t ∧ x.commitA (nI t) = 0) → ((hs_mrs t 16 0 y).2 = false → x.commitM (nI t) = (hs_mrs t 16 0 y).1.re t 0 ∧ x.commitA (nI t) = 1) → ∀ (n i : Nat), i + n = 16 → ∀ (q : HM) (C : Int), q.In C → C + 5 * n + 20 < 4611686018427387904 → q.gt t = g → hs_mrs t n i q = hs_mrs t 16 0 y → ∀ (H : Heap) (locs : List Loc), va_P D vwCl (hm_mem bd cy q) H → va_S (hm_A bd) s.heap H locs → ∀ ls : Array Slot, lv_has ls 7 [(4, .int (nI i)), (3, .int (nI g)), (0, .ref (bd 0)), (1, .int (nI t))] → W p l e ({ frames := 2, cells := 0, slots := 0, locals := 51 }) s m [.ref (bd 0), .int (nI t)].toArray below meth c H locs 0 0 (MQ below (hs_Post D (some (.int (x.commitA (nI t)))) (hm_mem bd cy (x.commitM (nI t))) (hm_A bd)) [.ref (bd 0), .int (nI t)].toArray s 0 0 (hm_A bd)) (F0 m 43 ls []) := by
      intro y g hg4 hyc hT hF n
      induction n with
      | zero =>
        intro i hi q C hq hC hgq he H locs hP hS ls hl
        have hD := hm_D ho cy q
        have hqe : hs_mrs t 16 0 y = (q, true) := he.symm
        refine lv_iload hx hb dX4_commit_43 (lv_at hl 0 rfl) ?_
        refine lv_bipush (v := 16) hx hb dX4_commit_45 (by decide) ?_
        refine lv_icmp_ge (tgt := 238) hx hb dX4_commit_47 (by decide) (fun c_1 => ?_) (fun c_1 => ?_)
        · have h2 := hT (by rw [hqe])
          rw [hqe] at h2
          have hqc : q.cm.length < 256 := by have h := hs_mrs_cm t 16 0 y; rw [hqe] at h; rw [show q.cm = y.cm from h]; exact hyc
          exact J238 q hqc h2.1 h2.2 H locs hP hS ls (lv_sub hl [2, 3] rfl)
        · exact absurd (show (16 : Int32) ≤ nI i from nI_le (a := 16) (by omega) (by omega)) c_1
      | succ n ih =>
        intro i hi q C hq hC hgq he H locs hP hS ls hl
        have hD := hm_D ho cy q
        have hi16 : i < 16 := by omega
        have hm4 : i % 4 < 4 := Nat.mod_lt _ (by decide)
        have hgq4 := hq.gt ht
        have hI1 : (q.tk (i % 4) (q.ck (q.gt t))).In (C + 1) := hq.tk (by omega) hm4 (hq.ck hgq4)
        have hI1l := hI1.look (t := t) (by omega) hi16
        have hI2 := hq.mr1 (by omega) ht hi16
        have hI3 := hq.mr2 (by omega) ht hi16
        have hI4 := hq.mrM (by omega) ht hi16
        have J144 : q.se t i = true → ∀ (H : Heap) (locs : List Loc), va_P D vwCl (hm_mem bd cy (q.mr1 t i)) H → va_S (hm_A bd) s.heap H locs → ∀ ls : Array Slot, lv_has ls 7 [(0, .ref (bd 0)), (1, .int (nI t)), (3, .int (nI g)), (4, .int (nI i)), (5, .int (nI (i % 4)))] → W p l e ({ frames := 2, cells := 0, slots := 0, locals := 51 }) s m [.ref (bd 0), .int (nI t)].toArray below meth c H locs 0 0 (MQ below (hs_Post D (some (.int (x.commitA (nI t)))) (hm_mem bd cy (x.commitM (nI t))) (hm_A bd)) [.ref (bd 0), .int (nI t)].toArray s 0 0 (hm_A bd)) (F0 m 144 ls []) := by
          intro hse H locs hP hS ls hl
          have hD := hm_D ho cy (q.mr1 t i)
          have hbf := hI2.best_fi ((q.mr1 t i).rs t) ((q.mr1 t i).ws t) hi16
          have hlen := hI2.len
          refine lv_aload_n hx hb dX4_commit_144 rfl (lv_at hl 0 rfl) ?_
          refine lv_iload hx hb dX4_commit_145 (lv_at hl 3 rfl) ?_
          refine lv_aload_n hx hb dX4_commit_147 rfl (lv_at hl 0 rfl) ?_
          refine hm_gf G in_X4_commit_X4 hP rfl 6 (by decide) (by decide +kernel) (.ref (bd 7)) rfl rfl dX4_commit_148 ?_
          refine lv_iload_n hx hb dX4_commit_151 rfl (lv_at hl 1 rfl) ?_
          refine hm_lL G hP 7 (HM.rs (HM.mr1 q t i)) 8 rfl (t) (nI_clamp (by omega)) (hs_inN (by omega) (by decide)) (HM.rs (HM.mr1 q t i) (t)) rfl dX4_commit_152 ?_
          refine lv_aload_n hx hb dX4_commit_153 rfl (lv_at hl 0 rfl) ?_
          refine hm_gf G in_X4_commit_X4 hP rfl 7 (by decide) (by decide +kernel) (.ref (bd 8)) rfl rfl dX4_commit_154 ?_
          refine lv_iload_n hx hb dX4_commit_157 rfl (lv_at hl 1 rfl) ?_
          refine hm_lL G hP 8 (HM.ws (HM.mr1 q t i)) 8 rfl (t) (nI_clamp (by omega)) (hs_inN (by omega) (by decide)) (HM.ws (HM.mr1 q t i) (t)) rfl dX4_commit_158 ?_
          refine hs_callV (n := 3) (As := [.int (nI i), .long (HM.rs (HM.mr1 q t i) (t)), .long (HM.ws (HM.mr1 q t i) (t))]) (rest := []) G hml (r_find l D cy bd ho (HM.mr1 q t i) (hI2.len) (hi16) (HM.rs (HM.mr1 q t i) (t)) (HM.ws (HM.mr1 q t i) (t))) gX4_commit_X4_find rfl rfl rfl (by decide +kernel) ⟨Nat.le_of_ble_eq_true rfl, Nat.le_of_ble_eq_true rfl⟩ (q0 := 0) (ci := 4) (fs := hm_objL bd (HM.mr1 q t i)) rfl rfl rfl rfl hl.1 (Nat.le_of_ble_eq_true rfl) ⟨Nat.zero_le _, Nat.zero_le _⟩ hP hS (fun _ h => h) rfl dX4_commit_159 (fun H locs hP hS _ _ => ?_)
          refine lv_if_lt (tgt := 169) hx hb dX4_commit_162 (by decide) (fun c_1 => ?_) (fun c_1 => ?_)
          · have h_j : hs_fi (hm_vk (HM.mr1 q t i)) (hm_va (HM.mr1 q t i)) (nI i) (HM.rs (HM.mr1 q t i) (t)) (HM.ws (HM.mr1 q t i) (t)) (HM.vs (HM.mr1 q t i)).length = none := (hs_ix_neg (fun u q => by have := (hs_fi_lt q).1; omega)).mp c_1
            have hc : q.mrC t i = false := by rw [HM.mrC, hbf, h_j]; rfl
            refine lv_iconst (v := 0) hx hb dX4_commit_169 (by decide) ?_
            refine lv_istore (lv' := [(6, .int (0)), (0, .ref (bd 0)), (1, .int (nI t)), (3, .int (nI g)), (4, .int (nI i)), (5, .int (nI (i % 4)))]) hx hb dX4_commit_170 hl (by decide) rfl (fun ls hl => ?_)
            refine lv_iload hx hb dX4_commit_172 (lv_at hl 0 rfl) ?_
            refine lv_if_ne (tgt := 207) hx hb dX4_commit_174 (by decide) (fun c_2 => ?_) (fun c_2 => ?_)
            · exact absurd rfl c_2
            · refine lv_aload_n hx hb dX4_commit_177 rfl (lv_at hl 1 rfl) ?_
              refine hm_gf G in_X4_commit_X4 hP rfl 14 (by decide) (by decide +kernel) (.ref (bd 13)) rfl rfl dX4_commit_178 ?_
              refine lv_iload hx hb dX4_commit_181 (lv_at hl 4 rfl) ?_
              refine hm_lL G hP 13 (HM.lr (HM.mr1 q t i)) 16 rfl (i) (nI_clamp (by omega)) (hs_inN (by omega) (by decide)) (HM.lr (HM.mr1 q t i) (i)) rfl dX4_commit_183 ?_
              refine lv_aload_n hx hb dX4_commit_184 rfl (lv_at hl 1 rfl) ?_
              refine hm_gf G in_X4_commit_X4 hP rfl 7 (by decide) (by decide +kernel) (.ref (bd 8)) rfl rfl dX4_commit_185 ?_
              refine lv_iload_n hx hb dX4_commit_188 rfl (lv_at hl 2 rfl) ?_
              refine hm_lL G hP 8 (HM.ws (HM.mr1 q t i)) 8 rfl (t) (nI_clamp (by omega)) (hs_inN (by omega) (by decide)) (HM.ws (HM.mr1 q t i) (t)) rfl dX4_commit_189 ?_
              refine hs_lge (x := HM.lr (HM.mr1 q t i) (i)) (y := HM.ws (HM.mr1 q t i) (t)) (tgt := 207) hx hb dX4_commit_190 dX4_commit_191 (by decide) (fun c_3 => ?_) (fun c_3 => ?_)
              · have hP : va_P D vwCl (hm_mem bd cy (q.mr2 t i)) H := by rw [HM.mr2, if_neg (show ¬ q.mrC t i = true by rw [hc]; decide), ← hs_mk_neg (q.mr1 t i) c_3]; exact hP
                have hD := hm_D ho cy (q.mr2 t i)
                refine lv_aload_n hx hb dX4_commit_207 rfl (lv_at hl 1 rfl) ?_
                refine lv_iload_n hx hb dX4_commit_208 rfl (lv_at hl 3 rfl) ?_
                refine lv_aload_n hx hb dX4_commit_209 rfl (lv_at hl 1 rfl) ?_
                refine hm_gf G in_X4_commit_X4 hP rfl 1 (by decide) (by decide +kernel) (.ref (bd 2)) rfl rfl dX4_commit_210 ?_
                refine lv_iload hx hb dX4_commit_213 (lv_at hl 5 rfl) ?_
                refine hm_lL G hP 2 (HM.ck (HM.mr2 q t i)) 4 rfl (i % 4) (nI_clamp (by omega)) (hs_inN (by omega) (by decide)) (HM.ck (HM.mr2 q t i) (i % 4)) rfl dX4_commit_215 ?_
                refine hs_callV (n := 2) (As := [.int (nI g), .long (HM.ck (HM.mr2 q t i) (i % 4))]) (rest := []) G hml (r_receive l D cy bd ho (HM.mr2 q t i) (show g < 4 by first | omega | exact hg4) (HM.ck (HM.mr2 q t i) (i % 4))) gX4_commit_X4_receive rfl rfl rfl (by decide +kernel) ⟨Nat.le_of_ble_eq_true rfl, Nat.le_of_ble_eq_true rfl⟩ (q0 := 0) (ci := 4) (fs := hm_objL bd (HM.mr2 q t i)) rfl rfl rfl rfl hl.1 (Nat.le_of_ble_eq_true rfl) ⟨Nat.zero_le _, Nat.zero_le _⟩ hP hS (fun _ h => h) rfl dX4_commit_216 (fun H locs hP hS _ _ => ?_)
                have hD := hm_D ho cy (HM.tk (HM.mr2 q t i) (g) (HM.ck (HM.mr2 q t i) (i % 4)))
                have hP : va_P D vwCl (hm_mem bd cy (q.mrM t i)) H := by rw [HM.mrM, hs_mr2_gt, hgq]; exact hP
                have hD := hm_D ho cy (q.mrM t i)
                refine lv_iload hx hb dX4_commit_219 (lv_at hl 0 rfl) ?_
                refine lv_if_eq (tgt := 232) hx hb dX4_commit_221 (by decide) (fun c_4 => ?_) (fun c_4 => ?_)
                · refine lv_iinc (v := nI (i + 1)) (lv' := [(4, .int (nI (i + 1))), (6, .int (0)), (0, .ref (bd 0)), (1, .int (nI t)), (3, .int (nI g)), (5, .int (nI (i % 4)))]) hx hb dX4_commit_232 hl (k := 4) rfl (nI_1 i) (by decide) rfl (fun ls hl => ?_)
                  refine lv_goto (tgt := 43) hx hb dX4_commit_235 (by decide) ?_
                  exact ih (i + 1) (by omega) (q.mrM t i) (C + 5) hI4 (by omega) (by rw [hs_mrM_gt]; exact hgq) (by rw [← he, hs_mrs_succ, if_pos hse, if_neg (by rw [hc]; decide)]) H locs hP hS ls (lv_sub hl [0, 4, 2, 3] rfl)
                · exact absurd rfl c_4
              · refine lv_aload_n hx hb dX4_commit_194 rfl (lv_at hl 1 rfl) ?_
                refine hm_gf G in_X4_commit_X4 hP rfl 14 (by decide) (by decide +kernel) (.ref (bd 13)) rfl rfl dX4_commit_195 ?_
                refine lv_iload hx hb dX4_commit_198 (lv_at hl 4 rfl) ?_
                refine lv_aload_n hx hb dX4_commit_200 rfl (lv_at hl 1 rfl) ?_
                refine hm_gf G in_X4_commit_X4 hP rfl 7 (by decide) (by decide +kernel) (.ref (bd 8)) rfl rfl dX4_commit_201 ?_
                refine lv_iload_n hx hb dX4_commit_204 rfl (lv_at hl 2 rfl) ?_
                refine hm_lL G hP 8 (HM.ws (HM.mr1 q t i)) 8 rfl (t) (nI_clamp (by omega)) (hs_inN (by omega) (by decide)) (HM.ws (HM.mr1 q t i) (t)) rfl dX4_commit_205 ?_
                refine hm_sL G hP hD hS 13 (HM.lr (HM.mr1 q t i)) 16 rfl (i) (nI_clamp (by omega)) (hs_inN (by omega) (by decide)) (hm_mem bd cy (HM.u_lr (HM.mr1 q t i) (i) (HM.ws (HM.mr1 q t i) (t)))) hm_s_lr dX4_commit_206 (fun H locs hP hD hS => ?_)
                have hP : va_P D vwCl (hm_mem bd cy (q.mr2 t i)) H := by rw [HM.mr2, if_neg (show ¬ q.mrC t i = true by rw [hc]; decide), ← hs_mk_pos (q.mr1 t i) c_3]; exact hP
                have hD := hm_D ho cy (q.mr2 t i)
                refine lv_aload_n hx hb dX4_commit_207 rfl (lv_at hl 1 rfl) ?_
                refine lv_iload_n hx hb dX4_commit_208 rfl (lv_at hl 3 rfl) ?_
                refine lv_aload_n hx hb dX4_commit_209 rfl (lv_at hl 1 rfl) ?_
                refine hm_gf G in_X4_commit_X4 hP rfl 1 (by decide) (by decide +kernel) (.ref (bd 2)) rfl rfl dX4_commit_210 ?_
                refine lv_iload hx hb dX4_commit_213 (lv_at hl 5 rfl) ?_
                refine hm_lL G hP 2 (HM.ck (HM.mr2 q t i)) 4 rfl (i % 4) (nI_clamp (by omega)) (hs_inN (by omega) (by decide)) (HM.ck (HM.mr2 q t i) (i % 4)) rfl dX4_commit_215 ?_
                refine hs_callV (n := 2) (As := [.int (nI g), .long (HM.ck (HM.mr2 q t i) (i % 4))]) (rest := []) G hml (r_receive l D cy bd ho (HM.mr2 q t i) (show g < 4 by first | omega | exact hg4) (HM.ck (HM.mr2 q t i) (i % 4))) gX4_commit_X4_receive rfl rfl rfl (by decide +kernel) ⟨Nat.le_of_ble_eq_true rfl, Nat.le_of_ble_eq_true rfl⟩ (q0 := 0) (ci := 4) (fs := hm_objL bd (HM.mr2 q t i)) rfl rfl rfl rfl hl.1 (Nat.le_of_ble_eq_true rfl) ⟨Nat.zero_le _, Nat.zero_le _⟩ hP hS (fun _ h => h) rfl dX4_commit_216 (fun H locs hP hS _ _ => ?_)
                have hD := hm_D ho cy (HM.tk (HM.mr2 q t i) (g) (HM.ck (HM.mr2 q t i) (i % 4)))
                have hP : va_P D vwCl (hm_mem bd cy (q.mrM t i)) H := by rw [HM.mrM, hs_mr2_gt, hgq]; exact hP
                have hD := hm_D ho cy (q.mrM t i)
                refine lv_iload hx hb dX4_commit_219 (lv_at hl 0 rfl) ?_
                refine lv_if_eq (tgt := 232) hx hb dX4_commit_221 (by decide) (fun c_5 => ?_) (fun c_5 => ?_)
                · refine lv_iinc (v := nI (i + 1)) (lv' := [(4, .int (nI (i + 1))), (6, .int (0)), (0, .ref (bd 0)), (1, .int (nI t)), (3, .int (nI g)), (5, .int (nI (i % 4)))]) hx hb dX4_commit_232 hl (k := 4) rfl (nI_1 i) (by decide) rfl (fun ls hl => ?_)
                  refine lv_goto (tgt := 43) hx hb dX4_commit_235 (by decide) ?_
                  exact ih (i + 1) (by omega) (q.mrM t i) (C + 5) hI4 (by omega) (by rw [hs_mrM_gt]; exact hgq) (by rw [← he, hs_mrs_succ, if_pos hse, if_neg (by rw [hc]; decide)]) H locs hP hS ls (lv_sub hl [0, 4, 2, 3] rfl)
                · exact absurd rfl c_5
          · obtain ⟨j, h_j⟩ : ∃ j, hs_fi (hm_vk (HM.mr1 q t i)) (hm_va (HM.mr1 q t i)) (nI i) (HM.rs (HM.mr1 q t i) (t)) (HM.ws (HM.mr1 q t i) (t)) (HM.vs (HM.mr1 q t i)).length = some j := Option.ne_none_iff_exists'.mp (fun q => c_1 ((hs_ix_neg (fun u q => by have := (hs_fi_lt q).1; omega)).mpr q))
            have hl_j := (hs_fi_lt h_j).1
            have hx_j : hs_ix (hs_fi (hm_vk (HM.mr1 q t i)) (hm_va (HM.mr1 q t i)) (nI i) (HM.rs (HM.mr1 q t i) (t)) (HM.ws (HM.mr1 q t i) (t)) (HM.vs (HM.mr1 q t i)).length) = nI j := by rw [h_j]; rfl
            have hc : q.mrC t i = true := by rw [HM.mrC, hbf, h_j]; rfl
            refine lv_iconst (v := 1) hx hb dX4_commit_165 (by decide) ?_
            refine lv_goto (tgt := 170) hx hb dX4_commit_166 (by decide) ?_
            refine lv_istore (lv' := [(6, .int (1)), (0, .ref (bd 0)), (1, .int (nI t)), (3, .int (nI g)), (4, .int (nI i)), (5, .int (nI (i % 4)))]) hx hb dX4_commit_170 hl (by decide) rfl (fun ls hl => ?_)
            refine lv_iload hx hb dX4_commit_172 (lv_at hl 0 rfl) ?_
            refine lv_if_ne (tgt := 207) hx hb dX4_commit_174 (by decide) (fun c_6 => ?_) (fun c_6 => ?_)
            · have hP : va_P D vwCl (hm_mem bd cy (q.mr2 t i)) H := by rw [HM.mr2, if_pos hc]; exact hP
              have hD := hm_D ho cy (q.mr2 t i)
              refine lv_aload_n hx hb dX4_commit_207 rfl (lv_at hl 1 rfl) ?_
              refine lv_iload_n hx hb dX4_commit_208 rfl (lv_at hl 3 rfl) ?_
              refine lv_aload_n hx hb dX4_commit_209 rfl (lv_at hl 1 rfl) ?_
              refine hm_gf G in_X4_commit_X4 hP rfl 1 (by decide) (by decide +kernel) (.ref (bd 2)) rfl rfl dX4_commit_210 ?_
              refine lv_iload hx hb dX4_commit_213 (lv_at hl 5 rfl) ?_
              refine hm_lL G hP 2 (HM.ck (HM.mr2 q t i)) 4 rfl (i % 4) (nI_clamp (by omega)) (hs_inN (by omega) (by decide)) (HM.ck (HM.mr2 q t i) (i % 4)) rfl dX4_commit_215 ?_
              refine hs_callV (n := 2) (As := [.int (nI g), .long (HM.ck (HM.mr2 q t i) (i % 4))]) (rest := []) G hml (r_receive l D cy bd ho (HM.mr2 q t i) (show g < 4 by first | omega | exact hg4) (HM.ck (HM.mr2 q t i) (i % 4))) gX4_commit_X4_receive rfl rfl rfl (by decide +kernel) ⟨Nat.le_of_ble_eq_true rfl, Nat.le_of_ble_eq_true rfl⟩ (q0 := 0) (ci := 4) (fs := hm_objL bd (HM.mr2 q t i)) rfl rfl rfl rfl hl.1 (Nat.le_of_ble_eq_true rfl) ⟨Nat.zero_le _, Nat.zero_le _⟩ hP hS (fun _ h => h) rfl dX4_commit_216 (fun H locs hP hS _ _ => ?_)
              have hD := hm_D ho cy (HM.tk (HM.mr2 q t i) (g) (HM.ck (HM.mr2 q t i) (i % 4)))
              have hP : va_P D vwCl (hm_mem bd cy (q.mrM t i)) H := by rw [HM.mrM, hs_mr2_gt, hgq]; exact hP
              have hD := hm_D ho cy (q.mrM t i)
              refine lv_iload hx hb dX4_commit_219 (lv_at hl 0 rfl) ?_
              refine lv_if_eq (tgt := 232) hx hb dX4_commit_221 (by decide) (fun c_7 => ?_) (fun c_7 => ?_)
              · exact absurd c_7 (by decide)
              · refine lv_aload_n hx hb dX4_commit_224 rfl (lv_at hl 1 rfl) ?_
                refine lv_iload_n hx hb dX4_commit_225 rfl (lv_at hl 2 rfl) ?_
                refine lv_lconst (v := 0) hx hb dX4_commit_226 (by decide) ?_
                refine hs_callV (n := 2) (As := [.int (nI t), .long (0)]) (rest := []) G hml (r_restart l D cy bd ho (HM.mrM q t i) (fun _ h => hI4.hd h) (show t < 8 by omega) (0)) gX4_commit_X4_restart rfl rfl rfl (by decide +kernel) ⟨Nat.le_of_ble_eq_true rfl, Nat.le_of_ble_eq_true rfl⟩ (q0 := 0) (ci := 4) (fs := hm_objL bd (HM.mrM q t i)) rfl rfl rfl rfl hl.1 (Nat.le_of_ble_eq_true rfl) ⟨Nat.zero_le _, Nat.zero_le _⟩ hP hS (fun _ h => h) rfl dX4_commit_227 (fun H locs hP hS _ _ => ?_)
                have hD := hm_D ho cy (HM.re (HM.mrM q t i) (t) (0))
                refine lv_iconst (v := 1) hx hb dX4_commit_230 (by decide) ?_
                have hqe : hs_mrs t 16 0 y = (q.mrM t i, false) := by rw [← he, hs_mrs_succ, if_pos hse, if_pos hc]
                have h2 := hF (by rw [hqe])
                rw [hqe] at h2
                exact ct_iret hx hb hr hlocks (by rw [h2.2]) (by rw [h2.1]; exact hP) hS dX4_commit_231
            · exact absurd c_6 (by decide)
        refine lv_iload hx hb dX4_commit_43 (lv_at hl 0 rfl) ?_
        refine lv_bipush (v := 16) hx hb dX4_commit_45 (by decide) ?_
        refine lv_icmp_ge (tgt := 238) hx hb dX4_commit_47 (by decide) (fun c_1 => ?_) (fun c_1 => ?_)
        · exact absurd c_1 (nI_ge (b := 16) (by omega) (by decide))
        · refine lv_aload_n hx hb dX4_commit_50 rfl (lv_at hl 2 rfl) ?_
          refine hm_gf G in_X4_commit_X4 hP rfl 10 (by decide) (by decide +kernel) (.ref (bd 11)) rfl rfl dX4_commit_51 ?_
          refine lv_iload_n hx hb dX4_commit_54 rfl (lv_at hl 3 rfl) ?_
          refine lv_bipush (v := 16) hx hb dX4_commit_55 (by decide) ?_
          refine lv_imul hx hb dX4_commit_57 ?_
          refine lv_iload hx hb dX4_commit_58 (lv_at hl 0 rfl) ?_
          refine lv_iadd hx hb dX4_commit_60 ?_
          rw [show (((nI t * 16) + nI i)) = nI (t * 16 + i) from by rw [show (16 : Int32) = nI 16 from rfl, pk_mul, nI_add]]
          refine hm_lZ G hP 11 (hm_se (q)) 128 rfl (t * 16 + i) (nI_clamp (by omega)) (hs_inN (by omega) (by decide)) ((if HM.se (q) t i = true then (1 : Int32) else 0)) (hm_se_at q hi16) dX4_commit_61 ?_
          refine lv_if_ne (tgt := 68) hx hb dX4_commit_62 (by decide) (fun c_2 => ?_) (fun c_2 => ?_)
          · have hse : q.se t i = true := by
              cases hq2 : q.se t i with
              | true => rfl
              | false => rw [hq2] at c_2; exact absurd rfl c_2
            refine lv_iload hx hb dX4_commit_68 (lv_at hl 0 rfl) ?_
            refine lv_iconst (v := 3) hx hb dX4_commit_70 (by decide) ?_
            refine lv_iand hx hb dX4_commit_71 ?_
            rw [show ((nI i &&& 3)) = nI (i % 4) from hs_and3 hi16]
            refine lv_istore (lv' := [(5, .int (nI (i % 4))), (4, .int (nI i)), (3, .int (nI g)), (0, .ref (bd 0)), (1, .int (nI t))]) hx hb dX4_commit_72 hl (by decide) rfl (fun ls hl => ?_)
            refine lv_aload_n hx hb dX4_commit_74 rfl (lv_at hl 3 rfl) ?_
            refine lv_iload hx hb dX4_commit_75 (lv_at hl 0 rfl) ?_
            refine lv_aload_n hx hb dX4_commit_77 rfl (lv_at hl 3 rfl) ?_
            refine hm_gf G in_X4_commit_X4 hP rfl 1 (by decide) (by decide +kernel) (.ref (bd 2)) rfl rfl dX4_commit_78 ?_
            refine lv_iload_n hx hb dX4_commit_81 rfl (lv_at hl 2 rfl) ?_
            refine hm_lL G hP 2 (HM.ck (q)) 4 rfl (g) (nI_clamp (by omega)) (hs_inN (by omega) (by decide)) (HM.ck (q) (g)) rfl dX4_commit_82 ?_
            refine hs_callV (n := 2) (As := [.int (nI (i % 4)), .long (HM.ck (q) (g))]) (rest := []) G hml (r_receive l D cy bd ho (q) (show i % 4 < 4 by first | omega | exact hm4) (HM.ck (q) (g))) gX4_commit_X4_receive rfl rfl rfl (by decide +kernel) ⟨Nat.le_of_ble_eq_true rfl, Nat.le_of_ble_eq_true rfl⟩ (q0 := 0) (ci := 4) (fs := hm_objL bd (q)) rfl rfl rfl rfl hl.1 (Nat.le_of_ble_eq_true rfl) ⟨Nat.zero_le _, Nat.zero_le _⟩ hP hS (fun _ h => h) rfl dX4_commit_83 (fun H locs hP hS _ _ => ?_)
            have hD := hm_D ho cy (HM.tk (q) (i % 4) (HM.ck (q) (g)))
            have hP : va_P D vwCl (hm_mem bd cy (HM.tk q (i % 4) (HM.ck q (HM.gt q t)))) H := by rw [hgq]; exact hP
            have hD := hm_D ho cy (HM.tk q (i % 4) (HM.ck q (HM.gt q t)))
            refine lv_aload_n hx hb dX4_commit_86 rfl (lv_at hl 3 rfl) ?_
            refine hm_gf G in_X4_commit_X4 hP rfl 15 (by decide) (by decide +kernel) (.ref (bd 14)) rfl rfl dX4_commit_87 ?_
            refine lv_iload hx hb dX4_commit_90 (lv_at hl 1 rfl) ?_
            refine hm_lI G hP 14 (hm_hd (HM.tk q (i % 4) (HM.ck q (HM.gt q t)))) 16 rfl (i) (nI_clamp (by omega)) (hs_inN (by omega) (by decide)) (hm_ho (HM.hd (HM.tk q (i % 4) (HM.ck q (HM.gt q t))) (i))) rfl dX4_commit_92 ?_
            refine lv_iload_n hx hb dX4_commit_93 rfl (lv_at hl 4 rfl) ?_
            refine lv_iconst (v := 1) hx hb dX4_commit_94 (by decide) ?_
            refine lv_iadd hx hb dX4_commit_95 ?_
            rw [show ((nI t + 1)) = nI (t + 1) from nI_1 t]
            refine lv_icmp_eq (tgt := 144) hx hb dX4_commit_96 (by decide) (fun c_3 => ?_) (fun c_3 => ?_)
            · have he2 : (HM.tk q (i % 4) (HM.ck q (HM.gt q t))).hd i = some t := (hm_ho_eq ht (hI1.hd hi16)).mp c_3
              exact J144 hse H locs (by rw [HM.mr1, HM.lpW, (hs_own he2).2]; dsimp only; rw [(hs_own he2).1]; exact hP) hS ls (lv_sub hl [3, 4, 2, 1, 0] rfl)
            · have he2 : ¬ (HM.tk q (i % 4) (HM.ck q (HM.gt q t))).hd i = some t := fun z => c_3 ((hm_ho_eq ht (hI1.hd hi16)).mpr z)
              refine lv_aload_n hx hb dX4_commit_99 rfl (lv_at hl 3 rfl) ?_
              refine lv_iload hx hb dX4_commit_100 (lv_at hl 1 rfl) ?_
              refine hs_callV (n := 1) (As := [.int (nI i)]) (rest := []) G hml (r_meet l D cy bd ho (HM.tk q (i % 4) (HM.ck q (HM.gt q t))) _ (hI1) (hi16) (t := t) (he2)) gX4_commit_X4_meet rfl rfl rfl (by decide +kernel) ⟨Nat.le_of_ble_eq_true rfl, Nat.le_of_ble_eq_true rfl⟩ (q0 := 0) (ci := 4) (fs := hm_objL bd (HM.tk q (i % 4) (HM.ck q (HM.gt q t)))) rfl rfl rfl rfl hl.1 (Nat.le_of_ble_eq_true rfl) ⟨Nat.zero_le _, Nat.zero_le _⟩ hP hS (fun _ h => h) rfl dX4_commit_102 (fun H locs hP hS _ _ => ?_)
              have hD := hm_D ho cy (HM.look (HM.tk q (i % 4) (HM.ck q (HM.gt q t))) (t) (i))
              refine lv_istore (lv' := [(6, .int (hs_ix (HM.lkU (HM.tk q (i % 4) (HM.ck q (HM.gt q t))) (t) (i)))), (5, .int (nI (i % 4))), (4, .int (nI i)), (3, .int (nI g)), (0, .ref (bd 0)), (1, .int (nI t))]) hx hb dX4_commit_105 hl (by decide) rfl (fun ls hl => ?_)
              refine lv_iload hx hb dX4_commit_107 (lv_at hl 0 rfl) ?_
              refine lv_if_lt (tgt := 144) hx hb dX4_commit_109 (by decide) (fun c_4 => ?_) (fun c_4 => ?_)
              · have h_u : HM.lkU (HM.tk q (i % 4) (HM.ck q (HM.gt q t))) (t) (i) = none := (hs_ix_neg (fun u q => by have := hI1.lkU hi16 q; omega)).mp c_4
                exact J144 hse H locs (by rw [HM.mr1, HM.lpW, h_u]; exact hP) hS ls (lv_sub hl [4, 5, 3, 2, 1] rfl)
              · obtain ⟨u, h_u⟩ : ∃ u, HM.lkU (HM.tk q (i % 4) (HM.ck q (HM.gt q t))) (t) (i) = some u := Option.ne_none_iff_exists'.mp (fun q => c_4 ((hs_ix_neg (fun u q => by have := hI1.lkU hi16 q; omega)).mpr q))
                have hl_u := hI1.lkU hi16 h_u
                have hx_u : hs_ix (HM.lkU (HM.tk q (i % 4) (HM.ck q (HM.gt q t))) (t) (i)) = nI u := by rw [h_u]; rfl
                refine lv_aload_n hx hb dX4_commit_112 rfl (lv_at hl 4 rfl) ?_
                refine hm_gf G in_X4_commit_X4 hP rfl 7 (by decide) (by decide +kernel) (.ref (bd 8)) rfl rfl dX4_commit_113 ?_
                refine lv_iload hx hb dX4_commit_116 (lv_at hl 0 rfl) ?_
                refine hm_lL G hP 8 (HM.ws (HM.look (HM.tk q (i % 4) (HM.ck q (HM.gt q t))) (t) (i))) 8 rfl (u) (by rw [hx_u]; exact nI_clamp (by omega)) (by rw [hx_u]; exact hs_inN (by omega) (by decide)) (HM.ws (HM.look (HM.tk q (i % 4) (HM.ck q (HM.gt q t))) (t) (i)) (u)) rfl dX4_commit_118 ?_
                refine lv_aload_n hx hb dX4_commit_119 rfl (lv_at hl 4 rfl) ?_
                refine hm_gf G in_X4_commit_X4 hP rfl 7 (by decide) (by decide +kernel) (.ref (bd 8)) rfl rfl dX4_commit_120 ?_
                refine lv_iload_n hx hb dX4_commit_123 rfl (lv_at hl 5 rfl) ?_
                refine hm_lL G hP 8 (HM.ws (HM.look (HM.tk q (i % 4) (HM.ck q (HM.gt q t))) (t) (i))) 8 rfl (t) (nI_clamp (by omega)) (hs_inN (by omega) (by decide)) (HM.ws (HM.look (HM.tk q (i % 4) (HM.ck q (HM.gt q t))) (t) (i)) (t)) rfl dX4_commit_124 ?_
                refine hs_lgt (x := HM.ws (HM.look (HM.tk q (i % 4) (HM.ck q (HM.gt q t))) (t) (i)) (u)) (y := HM.ws (HM.look (HM.tk q (i % 4) (HM.ck q (HM.gt q t))) (t) (i)) (t)) (tgt := 144) hx hb dX4_commit_125 dX4_commit_126 (by decide) (fun c_5 => ?_) (fun c_5 => ?_)
                · exact J144 hse H locs (by rw [HM.mr1, HM.lpW, h_u]; dsimp only; rw [← hs_pu_neg (HM.look (HM.tk q (i % 4) (HM.ck q (HM.gt q t))) t i) c_5]; exact hP) hS ls (lv_sub hl [4, 5, 3, 2, 1] rfl)
                · refine lv_aload_n hx hb dX4_commit_129 rfl (lv_at hl 4 rfl) ?_
                  refine hm_gf G in_X4_commit_X4 hP rfl 7 (by decide) (by decide +kernel) (.ref (bd 8)) rfl rfl dX4_commit_130 ?_
                  refine lv_iload hx hb dX4_commit_133 (lv_at hl 0 rfl) ?_
                  refine lv_aload_n hx hb dX4_commit_135 rfl (lv_at hl 4 rfl) ?_
                  refine hm_gf G in_X4_commit_X4 hP rfl 7 (by decide) (by decide +kernel) (.ref (bd 8)) rfl rfl dX4_commit_136 ?_
                  refine lv_iload_n hx hb dX4_commit_139 rfl (lv_at hl 5 rfl) ?_
                  refine hm_lL G hP 8 (HM.ws (HM.look (HM.tk q (i % 4) (HM.ck q (HM.gt q t))) (t) (i))) 8 rfl (t) (nI_clamp (by omega)) (hs_inN (by omega) (by decide)) (HM.ws (HM.look (HM.tk q (i % 4) (HM.ck q (HM.gt q t))) (t) (i)) (t)) rfl dX4_commit_140 ?_
                  refine lv_lconst (v := 1) hx hb dX4_commit_141 (by decide) ?_
                  refine lv_ladd hx hb dX4_commit_142 ?_
                  refine hm_sL G hP hD hS 8 (HM.ws (HM.look (HM.tk q (i % 4) (HM.ck q (HM.gt q t))) (t) (i))) 8 rfl (u) (by rw [hx_u]; exact nI_clamp (by omega)) (by rw [hx_u]; exact hs_inN (by omega) (by decide)) (hm_mem bd cy (HM.u_ws (HM.look (HM.tk q (i % 4) (HM.ck q (HM.gt q t))) (t) (i)) (u) ((HM.ws (HM.look (HM.tk q (i % 4) (HM.ck q (HM.gt q t))) (t) (i)) (t) + 1)))) hm_s_ws dX4_commit_143 (fun H locs hP hD hS => ?_)
                  exact J144 hse H locs (by rw [HM.mr1, HM.lpW, h_u]; dsimp only; rw [← hs_pu_pos (HM.look (HM.tk q (i % 4) (HM.ck q (HM.gt q t))) t i) c_5]; exact hP) hS ls (lv_sub hl [4, 5, 3, 2, 1] rfl)
          · have hse : q.se t i = false := by
              cases hq2 : q.se t i with
              | false => rfl
              | true => rw [hq2] at c_2; exact absurd c_2 (by decide)
            refine lv_goto (tgt := 232) hx hb dX4_commit_65 (by decide) ?_
            refine lv_iinc (v := nI (i + 1)) (lv' := [(4, .int (nI (i + 1))), (3, .int (nI g)), (0, .ref (bd 0)), (1, .int (nI t))]) hx hb dX4_commit_232 hl (k := 0) rfl (nI_1 i) (by decide) rfl (fun ls hl => ?_)
            refine lv_goto (tgt := 43) hx hb dX4_commit_235 (by decide) ?_
            exact ih (i + 1) (by omega) q C hq (by omega) hgq (by rw [← he, hs_mrs_succ, if_neg (by rw [hse]; decide)]) H locs hP hS ls (lv_sub hl [0, 1, 2, 3] rfl)
    refine lv_aload_n hx hb dX4_commit_0 rfl (lv_at hl 0 rfl) ?_
    refine lv_iload_n hx hb dX4_commit_1 rfl (lv_at hl 1 rfl) ?_
    refine hs_callV (n := 1) (As := [.int (nI t)]) (rest := []) G hml (r_stopped l D cy bd ho (x) (hph) (nI t)) gX4_commit_X4_stopped rfl rfl rfl (by decide +kernel) ⟨Nat.le_of_ble_eq_true rfl, Nat.le_of_ble_eq_true rfl⟩ (q0 := 0) (ci := 4) (fs := hm_objL bd (x)) rfl rfl rfl rfl hl.1 (Nat.le_of_ble_eq_true rfl) ⟨Nat.zero_le _, Nat.zero_le _⟩ hP hS (fun _ h => h) rfl dX4_commit_2 (fun H locs hP hS _ _ => ?_)
    have hD := hm_D ho cy (HM.stopM (x) (nI t))
    rw [sM] at hP
    have hD := hm_D ho cy (x.stp t)
    refine lv_istore_n (lv' := [(2, .int (HM.stopA (x) (nI t))), (0, .ref (bd 0)), (1, .int (nI t))]) hx hb dX4_commit_5 rfl hl (by decide) rfl (fun ls hl => ?_)
    refine lv_iload_n hx hb dX4_commit_6 rfl (lv_at hl 0 rfl) ?_
    refine lv_if_eq (tgt := 12) hx hb dX4_commit_7 (by decide) (fun c_1 => ?_) (fun c_1 => ?_)
    · have hc0 : x.stc t = 0 := sA.symm.trans c_1
      have eA' := eA.trans (if_pos hc0)
      have eM' := eM.trans (if_pos hc0)
      have hcl := hc1 hc0
      refine lv_aload_n hx hb dX4_commit_12 rfl (lv_at hl 1 rfl) ?_
      refine hm_gf G in_X4_commit_X4 hP rfl 3 (by decide) (by decide +kernel) (.ref (bd 4)) rfl rfl dX4_commit_13 ?_
      refine lv_iload_n hx hb dX4_commit_16 rfl (lv_at hl 2 rfl) ?_
      refine hm_lI G hP 4 (hm_gt (HM.stp x t)) 8 rfl (t) (nI_clamp (by omega)) (hs_inN (by omega) (by decide)) (nI (HM.gt (HM.stp x t) (t))) rfl dX4_commit_17 ?_
      refine lv_istore_n (lv' := [(3, .int (nI (HM.gt (HM.stp x t) (t)))), (2, .int (HM.stopA (x) (nI t))), (0, .ref (bd 0)), (1, .int (nI t))]) hx hb dX4_commit_18 rfl hl (by decide) rfl (fun ls hl => ?_)
      refine lv_aload_n hx hb dX4_commit_19 rfl (lv_at hl 2 rfl) ?_
      refine lv_iload_n hx hb dX4_commit_20 rfl (lv_at hl 0 rfl) ?_
      refine hs_callV (n := 1) (As := [.int (nI (HM.gt (HM.stp x t) (t)))]) (rest := []) G hml (r_event l D cy bd ho (HM.stp x t) (show HM.gt (HM.stp x t) (t) < 4 by first | omega | exact hi)) gX4_commit_X4_event rfl rfl rfl (by decide +kernel) ⟨Nat.le_of_ble_eq_true rfl, Nat.le_of_ble_eq_true rfl⟩ (q0 := 0) (ci := 4) (fs := hm_objL bd (HM.stp x t)) rfl rfl rfl rfl hl.1 (Nat.le_of_ble_eq_true rfl) ⟨Nat.zero_le _, Nat.zero_le _⟩ hP hS (fun _ h => h) rfl dX4_commit_21 (fun H locs hP hS _ _ => ?_)
      have hD := hm_D ho cy (HM.ev (HM.stp x t) (HM.gt (HM.stp x t) (t)))
      refine lv_aload_n hx hb dX4_commit_24 rfl (lv_at hl 2 rfl) ?_
      refine hm_gf G in_X4_commit_X4 hP rfl 7 (by decide) (by decide +kernel) (.ref (bd 8)) rfl rfl dX4_commit_25 ?_
      refine lv_iload_n hx hb dX4_commit_28 rfl (lv_at hl 3 rfl) ?_
      refine hm_lL G hP 8 (HM.ws (HM.ev (HM.stp x t) (HM.gt (HM.stp x t) (t)))) 8 rfl (t) (nI_clamp (by omega)) (hs_inN (by omega) (by decide)) (HM.ws (HM.ev (HM.stp x t) (HM.gt (HM.stp x t) (t))) (t)) rfl dX4_commit_29 ?_
      refine lv_aload_n hx hb dX4_commit_30 rfl (lv_at hl 2 rfl) ?_
      refine hm_gf G in_X4_commit_X4 hP rfl 6 (by decide) (by decide +kernel) (.ref (bd 7)) rfl rfl dX4_commit_31 ?_
      refine lv_iload_n hx hb dX4_commit_34 rfl (lv_at hl 3 rfl) ?_
      refine hm_lL G hP 7 (HM.rs (HM.ev (HM.stp x t) (HM.gt (HM.stp x t) (t)))) 8 rfl (t) (nI_clamp (by omega)) (hs_inN (by omega) (by decide)) (HM.rs (HM.ev (HM.stp x t) (HM.gt (HM.stp x t) (t))) (t)) rfl dX4_commit_35 ?_
      refine hs_lle (x := HM.ws (HM.ev (HM.stp x t) (HM.gt (HM.stp x t) (t))) (t)) (y := HM.rs (HM.ev (HM.stp x t) (HM.gt (HM.stp x t) (t))) (t)) (tgt := 238) hx hb dX4_commit_36 dX4_commit_37 (by decide) (fun c_2 => ?_) (fun c_2 => ?_)
      · exact J238 (HM.ev (HM.stp x t) (HM.gt (HM.stp x t) t)) hcl (by rw [eM', HM.cmtM, if_neg c_2]) (by rw [eA', HM.cmtA, if_neg c_2]) H locs hP hS ls (lv_sub hl [2, 3] rfl)
      · refine lv_iconst (v := 0) hx hb dX4_commit_40 (by decide) ?_
        refine lv_istore (lv' := [(4, .int (0)), (3, .int (nI (HM.gt (HM.stp x t) (t)))), (2, .int (HM.stopA (x) (nI t))), (0, .ref (bd 0)), (1, .int (nI t))]) hx hb dX4_commit_41 hl (by decide) rfl (fun ls hl => ?_)
        exact loop (HM.ev (HM.stp x t) (HM.gt (HM.stp x t) t)) (HM.gt (HM.stp x t) t) hg0 hcl (fun h => ⟨by rw [eM', HM.cmtM, if_pos c_2, if_pos h], by rw [eA', HM.cmtA, if_pos c_2, if_pos h]⟩) (fun h => ⟨by rw [eM', HM.cmtM, if_pos c_2, if_neg (by rw [h]; decide)], by rw [eA', HM.cmtA, if_pos c_2, if_neg (by rw [h]; decide)]⟩) 16 0 rfl (HM.ev (HM.stp x t) (HM.gt (HM.stp x t) t)) _ hI1 (by omega) rfl rfl H locs hP hS ls (lv_sub hl [0, 1, 3, 4] rfl)
    · have hc0 : ¬ x.stc t = 0 := fun q => c_1 (sA.trans q)
      have eA' := eA.trans (if_neg hc0)
      have eM' := eM.trans (if_neg hc0)
      refine lv_iload_n hx hb dX4_commit_10 rfl (lv_at hl 0 rfl) ?_
      exact ct_iret hx hb hr hlocks (by rw [eA', sA]) (by rw [eM']; exact hP) hS dX4_commit_11

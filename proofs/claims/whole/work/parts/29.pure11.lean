/-! ===== laws for read, write, commit of the reference: the gateway stays, two pushes are one ===== -/
theorem hs_sil_gt (x : HM) (u : Nat) : (x.sil u).gt = x.gt := by unfold HM.sil; split <;> rfl
theorem hs_stl_gt (x : HM) (k u : Nat) : (x.stl k u).gt = x.gt := by unfold HM.stl; split <;> rfl
theorem hs_lk_gt (x : HM) (k u : Nat) : (x.lk k u).gt = x.gt := by
  have h : (x.lk3 k u).gt = x.gt := hs_sil_gt _ _
  unfold HM.lk
  split
  · exact h
  · rw [hs_stl_gt]; exact h
theorem hs_look_gt (x : HM) (t k : Nat) : (x.look t k).gt = x.gt := by
  unfold HM.look
  cases x.hd k with
  | none => rfl
  | some u => dsimp only; split
              · rfl
              · exact hs_lk_gt _ _ _
theorem hs_pu_gt (x : HM) (t : Nat) (s : Int64) : (x.pu t s).gt = x.gt := rfl
theorem hs_mv_gt (x : HM) (t : Nat) (s : Int64) : (x.mv t s).gt = x.gt := rfl
theorem hs_clr_gt (x : HM) (t n : Nat) : (x.clr t n).gt = x.gt := rfl
theorem hs_re_gt (x : HM) (t : Nat) (s : Int64) : (x.re t s).gt = x.gt := by unfold HM.re; rw [hs_mv_gt, hs_clr_gt]
theorem hs_lpR_gt (x : HM) (t k : Nat) : (x.lpR t k).gt = x.gt := by
  unfold HM.lpR
  cases x.lkU t k with
  | none => exact hs_look_gt _ _ _
  | some u => dsimp only; rw [hs_pu_gt]; exact hs_look_gt x t k
theorem hs_lpW_gt (x : HM) (t k : Nat) : (x.lpW t k).gt = x.gt := by
  unfold HM.lpW
  cases x.lkU t k with
  | none => exact hs_look_gt _ _ _
  | some u => dsimp only; rw [hs_pu_gt]; exact hs_look_gt x t k
theorem hs_rdN_gt (z : HM) (t k : Nat) : (z.rdN t k).gt = z.gt := rfl
theorem hs_rdX_gt (z : HM) (t k : Nat) : (z.rdX t k).gt = z.gt := by
  unfold HM.rdX
  cases hs_best (z.rs t) (z.lm t) (z.vk k) with
  | none => exact hs_rdN_gt _ _ _
  | some v => exact hs_re_gt _ _ _
theorem hs_rdM_gt (x : HM) (t k : Nat) : (x.rdM t k).gt = x.gt := by
  unfold HM.rdM
  split
  · rfl
  · rw [hs_rdX_gt, hs_lpR_gt]
theorem hs_u_hu_gt (x : HM) (t : Nat) (v : Int32) : (x.u_hu t v).gt = x.gt := rfl
theorem hs_wr1_gt (x : HM) (t k : Nat) : (x.wr1 t k).gt = x.gt := by
  unfold HM.wr1
  cases x.lkU t k with
  | none => exact hs_look_gt _ _ _
  | some u => dsimp only; rw [hs_u_hu_gt, hs_re_gt]; exact hs_look_gt x t k
theorem hs_wr3_gt (x : HM) (t k : Nat) (v : Int32) : (x.wr3 t k v).gt = x.gt := rfl
theorem hs_u_pl_gt (x : HM) (k : Nat) (v : Int32) : (x.u_pl k v).gt = x.gt := rfl
theorem hs_wrM_gt (x : HM) (t k : Nat) (v : Int32) : (x.wrM t k v).gt = x.gt := by
  unfold HM.wrM
  split
  · exact hs_u_pl_gt _ _ _
  · split
    · exact hs_look_gt _ _ _
    · split
      · exact hs_wr1_gt _ _ _
      · rw [hs_wr3_gt, hs_wr1_gt]
theorem hs_tk_gt (x : HM) (i : Nat) (s : Int64) : (x.tk i s).gt = x.gt := rfl
theorem hs_mk_gt (x : HM) (k : Nat) (s : Int64) : (x.mk k s).gt = x.gt := rfl
theorem hs_mr1_gt (x : HM) (t k : Nat) : (x.mr1 t k).gt = x.gt := by unfold HM.mr1; rw [hs_lpW_gt, hs_tk_gt]
theorem hs_mr2_gt (x : HM) (t k : Nat) : (x.mr2 t k).gt = x.gt := by
  unfold HM.mr2
  split
  · exact hs_mr1_gt _ _ _
  · rw [hs_mk_gt, hs_mr1_gt]
theorem hs_mrM_gt (x : HM) (t k : Nat) : (x.mrM t k).gt = x.gt := by unfold HM.mrM; rw [hs_tk_gt, hs_mr2_gt]
theorem hs_own {x : HM} {t k : Nat} (h : x.hd k = some t) : x.look t k = x ∧ x.lkU t k = none := by
  constructor
  · unfold HM.look; rw [h]; dsimp only; rw [if_pos rfl]
  · unfold HM.lkU; rw [h]; dsimp only; rw [if_pos rfl]
theorem hs_u_ws2 (x : HM) (t : Nat) (a b : Int64) : (x.u_ws t a).u_ws t b = x.u_ws t b := by
  show (x.s_ws (va_up x.ws t a)).s_ws (va_up (va_up x.ws t a) t b) = x.s_ws (va_up x.ws t b)
  rw [show (x.s_ws (va_up x.ws t a)).s_ws (va_up (va_up x.ws t a) t b) = x.s_ws (va_up (va_up x.ws t a) t b) from rfl]
  congr 1
  funext j
  by_cases e : j = t
  · subst e; rw [va_up_self, va_up_self]
  · rw [va_up_ne _ _ e, va_up_ne _ _ e, va_up_ne _ _ e]
theorem hs_u_ws_at (x : HM) (t : Nat) (a : Int64) : (x.u_ws t a).ws t = a := va_up_self _ _ _
theorem hs_pu2 {x : HM} {t : Nat} {a b : Int64} (ha : a.toInt < 4611686018427387904) (hb : b.toInt < 4611686018427387904) : (x.pu t a).pu t b = x.pu t (if a < b then b else a) := by
  have e1 := hs_toInt1 ha
  have e2 := hs_toInt1 hb
  unfold HM.pu
  rw [hs_u_ws_at, hs_u_ws2]
  congr 1
  by_cases c1 : x.ws t ≤ a
  · rw [if_pos c1]
    by_cases c2 : a < b
    · rw [if_pos c2]
      have h1 : a + 1 ≤ b := by rw [Int64.le_iff_toInt_le, e1]; have := Int64.lt_iff_toInt_lt.mp c2; omega
      have h2 : x.ws t ≤ b := by rw [Int64.le_iff_toInt_le]; have h3 := Int64.le_iff_toInt_le.mp c1; have h4 := Int64.lt_iff_toInt_lt.mp c2; omega
      rw [if_pos h1, if_pos h2]
    · rw [if_neg c2, if_pos c1]
      have h1 : ¬ a + 1 ≤ b := by rw [Int64.le_iff_toInt_le, e1]; have := Int64.le_iff_toInt_le.mp (Int64.not_lt.mp c2); omega
      rw [if_neg h1]
  · rw [if_neg c1]
    by_cases c2 : a < b
    · rw [if_pos c2]
    · rw [if_neg c2, if_neg c1]
      have h1 : ¬ x.ws t ≤ b := fun q => c1 (by rw [Int64.le_iff_toInt_le] at q ⊢; have := Int64.le_iff_toInt_le.mp (Int64.not_lt.mp c2); omega)
      rw [if_neg h1]
theorem hs_ix_neg {o : Option Nat} (h : ∀ u, o = some u → u < 2 ^ 31) : hs_ix o < 0 ↔ o = none := by
  cases o with
  | none => exact ⟨fun _ => rfl, fun _ => by decide⟩
  | some u => exact ⟨fun q => absurd q (nI_pos (h u rfl)), fun q => by cases q⟩
theorem HM.In.wr2' {y : HM} {B : Int} (h : y.In B) (hB2 : B + 1 < 4611686018427387904) {t k : Nat} (hk : k < 16) : y.wr2 t k = y.pu t (if y.lr k < hs_gs (hs_best (-1) 9223372036854775807 (y.vk k)) then hs_gs (hs_best (-1) 9223372036854775807 (y.vk k)) else y.lr k) := by
  unfold HM.wr2
  have e : (y.pu t (y.lr k)).vk k = y.vk k := rfl
  rw [e]
  exact hs_pu2 (by have := (h.lr hk).2; omega) (by have := (h.gs (-1) 9223372036854775807 k).2; omega)
theorem hs_birth {a b : Nat} (ha : a < 2 ^ 31) (hb : b < 2 ^ 31) : lN a < lN b ↔ a < b := lN_lt ha hb
theorem hm_se_at (x : HM) {t k : Nat} (hk : k < 16) : hm_se x (t * 16 + k) = if x.se t k then 1 else 0 := by
  unfold hm_se
  rw [show (t * 16 + k) / 16 = t by omega, show (t * 16 + k) % 16 = k by omega]
theorem hs_nlt_m1 {a : Int64} (h : 0 ≤ a.toInt) : ¬ a < -1 := fun z => by
  have h1 := Int64.lt_iff_toInt_lt.mp z
  have h3 : (-1 : Int64).toInt = -1 := by decide
  rw [h3] at h1
  omega

/-! ===== laws for tick and begin of the reference ===== -/
theorem hs_ra_l {r f : Int32} (hr : 0 ≤ r.toInt) (hf : 0 ≤ f.toInt) : (10 : Int64) < Int32.toInt64 r - Int32.toInt64 f ↔ (10 : Int32) < r - f := by
  have h1 := Int32.toInt_lt r
  have h2 := Int32.toInt_lt f
  have e1 : (Int32.toInt64 r - Int32.toInt64 f).toInt = r.toInt - f.toInt := by
    rw [Int64.toInt_sub, Int32.toInt_toInt64, Int32.toInt_toInt64]
    exact Int.bmod_eq_of_le (by omega) (by omega)
  have e2 : (r - f).toInt = r.toInt - f.toInt := by
    rw [Int32.toInt_sub]
    exact Int.bmod_eq_of_le (by omega) (by omega)
  have e3 : (10 : Int64).toInt = 10 := by decide
  have e4 : (10 : Int32).toInt = 10 := by decide
  rw [Int64.lt_iff_toInt_lt, Int32.lt_iff_toInt_lt, e1, e2, e3, e4]
theorem hs_shl20b (y : Int64) : (y <<< (Int32.toInt64 20 &&& 63)) = y * 1048576 := by
  apply Int64.toBitVec_inj.mp
  rw [Int64.toBitVec_shiftLeft, Int64.toBitVec_mul]
  have e : (Int32.toInt64 20 &&& 63).toBitVec.smod 64 = 20#64 := by decide
  rw [e, BitVec.shiftLeft_eq', BitVec.shiftLeft_eq_mul_twoPow]
  rfl
theorem hs_shr20 {c : Int64} (h : 0 ≤ c.toInt) : (c >>> (Int32.toInt64 20 &&& 63)) = c / 1048576 := by
  apply Int64.toInt_inj.mp
  have hlt := Int64.toInt_lt c
  have e : (Int32.toInt64 20 &&& 63).toBitVec.smod 64 = 20#64 := by decide
  have e1 : (c >>> (Int32.toInt64 20 &&& 63)).toInt = c.toInt >>> 20 := by
    show (c >>> (Int32.toInt64 20 &&& 63)).toBitVec.toInt = _
    rw [Int64.toBitVec_shiftRight, e, BitVec.toInt_sshiftRight']
    rfl
  have e3 : (1048576 : Int64).toInt = 1048576 := by decide
  rw [e1, Int64.toInt_div, e3, Int.shiftRight_eq_div_pow, Int.tdiv_eq_ediv_of_nonneg h]
  have h1 : c.toInt / 1048576 ≤ c.toInt := Int.ediv_le_self _ h
  have h0 : 0 ≤ c.toInt / 1048576 := Int.ediv_nonneg h (by decide)
  rw [Int.bmod_eq_of_le (by omega) (by omega)]
  rfl
theorem hs_lim {c : Int64} (h : 0 ≤ c.toInt) : ((((c >>> (Int32.toInt64 20 &&& 63)) + 10) <<< (Int32.toInt64 20 &&& 63)) + 1048575) = (((c / 1048576) + 10) * 1048576 + 1048575) := by
  rw [hs_shr20 h, hs_shl20b]
theorem hs_b1 (y : HM) (b t : Nat) (a : Int64) : (y.s_bs b).u_rs t a = (y.u_rs t a).s_bs b := rfl
theorem hs_b2 (y : HM) (b t : Nat) (a : Int64) : (y.s_bs b).u_ws t a = (y.u_ws t a).s_bs b := rfl
theorem hs_b3 (y : HM) (b t : Nat) (a : Int64) : (y.s_bs b).u_lm t a = (y.u_lm t a).s_bs b := rfl
theorem hs_b4 (y : HM) (b t : Nat) (a : Int32) : (y.s_bs b).u_hu t a = (y.u_hu t a).s_bs b := rfl
theorem hs_b5 (y : HM) (b t : Nat) (f : Nat → Bool) : (y.s_bs b).u_se t f = (y.u_se t f).s_bs b := rfl
theorem hs_b6 (y : HM) (t : Nat) (a : Int32) (f : Nat → Bool) : (y.u_hu t a).u_se t f = (y.u_se t f).u_hu t a := rfl
theorem hs_beg_ref (v : HM) (t i b : Nat) (A : Int32) (C L : Int64) (f : Nat → Bool) : (((((((((v.u_ph t 1).u_gt t i).u_bt t A).u_bi t b).s_bs (b + 1)).u_rs t C).u_ws t C).u_lm t L).u_hu t 0).u_se t f = (((((((((v.u_ph t 1).u_gt t i).u_bt t A).u_bi t b).u_rs t C).u_ws t C).u_lm t L).u_se t f).u_hu t 0).s_bs (b + 1) := by
  generalize ((((v.u_ph t 1).u_gt t i).u_bt t A).u_bi t b) = y
  rw [hs_b1, hs_b2, hs_b3, hs_b4, hs_b5, hs_b6]
def HM.ss (z : HM) (t n : Nat) : HM := z.s_se (va_up z.se t (fun k => if k < n then false else z.se t k))
theorem hs_ss_0 (z : HM) (t : Nat) : z.ss t 0 = z := by
  have e : (fun k => if k < 0 then false else z.se t k) = z.se t := by funext k; simp
  unfold HM.ss
  rw [e, hs_up_id, hs_q_id]
theorem hs_ss_succ (z : HM) (t n : Nat) : (z.ss t n).u_se t (va_up ((z.ss t n).se t) n false) = z.ss t (n + 1) := by
  unfold HM.ss
  rw [hs_q_se, hs_q_seu]
  congr 1
  funext j
  by_cases e : j = t
  · subst e
    rw [va_up_self, va_up_self, va_up_self]
    funext k
    by_cases e2 : k = n
    · subst e2; rw [va_up_self]; simp
    · rw [va_up_ne _ _ e2]
      by_cases q : k < n
      · simp [q, show k < n + 1 by omega]
      · simp [q, show ¬ k < n + 1 by omega]
  · rw [va_up_ne _ _ e, va_up_ne _ _ e, va_up_ne _ _ e]
theorem hm_ss16 {bd : Nat → Nat} {cy : Nat → ClassId} (z : HM) (t : Nat) : hm_mem bd cy (z.ss t 16) = hm_mem bd cy (z.u_se t (fun _ => false)) := by
  unfold HM.ss
  rw [hs_q_u, hm_mem_se, hm_mem_se]
  have e : (fun j => if (va_up z.se t (fun k => if k < 16 then false else z.se t k)) (j / 16) (j % 16) then (1 : Int32) else 0) = fun j => if (va_up z.se t (fun _ => false)) (j / 16) (j % 16) then 1 else 0 := by
    funext j
    by_cases e : j / 16 = t
    · rw [e, va_up_self, va_up_self]; simp [show j % 16 < 16 by omega]
    · rw [va_up_ne _ _ e, va_up_ne _ _ e]
  rw [e]

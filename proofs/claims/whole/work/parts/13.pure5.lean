/-! ===== read, write, commit as functions of the state ===== -/
/-- the key is looked up for t, and who stands in the way is pushed above t's read stamp (write stamp) -/
def HM.lpR (x : HM) (t k : Nat) : HM := match x.lkU t k with
  | none => x.look t k
  | some u => (x.look t k).pu u ((x.look t k).rs t)
def HM.lpW (x : HM) (t k : Nat) : HM := match x.lkU t k with
  | none => x.look t k
  | some u => (x.look t k).pu u ((x.look t k).ws t)
/-- t has read the key: its mark, the set of keys read -/
def HM.mk (x : HM) (k : Nat) (s : Int64) : HM := x.u_lr k (if s < x.lr k then x.lr k else s)
def HM.rdN (z : HM) (t k : Nat) : HM := (z.mk k (z.rs t)).u_se t (va_up ((z.mk k (z.rs t)).se t) k true)
def HM.rdX (z : HM) (t k : Nat) : HM := match hs_best (z.rs t) (z.lm t) (z.vk k) with
  | some v => z.re t v.1
  | none => z.rdN t k
def HM.rdY (z : HM) (t k : Nat) : Int64 := match hs_best (z.rs t) (z.lm t) (z.vk k) with
  | some _ => 4294967297
  | none => Int32.toInt64 (hs_gv (hs_best (-1) (z.rs t) (z.vk k)))
def HM.rdM (x : HM) (t k : Nat) : HM := if x.hd k = some t then x else (x.lpR t k).rdX t k
def HM.rdA (x : HM) (t k : Nat) : Int64 := if x.hd k = some t then Int32.toInt64 (x.pl k) else (x.lpR t k).rdY t k
/-- write at the owner -/
def HM.wrB (x : HM) (t k : Nat) : Bool := match x.lkU t k with
  | none => false
  | some u => decide ((x.look t k).bi u < (x.look t k).bi t)
def HM.wr1 (x : HM) (t k : Nat) : HM := match x.lkU t k with
  | none => x.look t k
  | some u => ((x.look t k).re u 0).u_hu u 1
def HM.wr2 (y : HM) (t k : Nat) : HM := (y.pu t (y.lr k)).pu t (hs_gs (hs_best (-1) 9223372036854775807 ((y.pu t (y.lr k)).vk k)))
def HM.wr3 (y : HM) (t k : Nat) (v : Int32) : HM := ((y.wr2 t k).u_hd k (some t)).u_pl k v
def HM.wrM (x : HM) (t k : Nat) (v : Int32) : HM := if x.hd k = some t then x.u_pl k v else if x.wrB t k then x.look t k else if 16 ≤ ((x.wr1 t k).vk k).length then x.wr1 t k else (x.wr1 t k).wr3 t k v
def HM.wrA (x : HM) (t k : Nat) : Int32 := if x.hd k = some t then 0 else if x.wrB t k then -5 else if 16 ≤ ((x.wr1 t k).vk k).length then -7 else 0
/-- a key that t has read, at its commit -/
def HM.mr1 (x : HM) (t k : Nat) : HM := (x.tk (k % 4) (x.ck (x.gt t))).lpW t k
def HM.mrC (x : HM) (t k : Nat) : Bool := (hs_best ((x.mr1 t k).rs t) ((x.mr1 t k).ws t) ((x.mr1 t k).vk k)).isSome
def HM.mr2 (x : HM) (t k : Nat) : HM := if x.mrC t k then x.mr1 t k else (x.mr1 t k).mk k ((x.mr1 t k).ws t)
def HM.mrM (x : HM) (t k : Nat) : HM := (x.mr2 t k).tk ((x.mr2 t k).gt t) ((x.mr2 t k).ck (k % 4))
def hs_mrs (t : Nat) : Nat → Nat → HM → HM × Bool
  | 0, _, x => (x, true)
  | n + 1, k, x => if x.se t k then (if x.mrC t k then (x.mrM t k, false) else hs_mrs t n (k + 1) (x.mrM t k)) else hs_mrs t n (k + 1) x
theorem hs_mrs_succ (t n k : Nat) (x : HM) : hs_mrs t (n + 1) k x = if x.se t k then (if x.mrC t k then (x.mrM t k, false) else hs_mrs t n (k + 1) (x.mrM t k)) else hs_mrs t n (k + 1) x := rfl
/-! laws -/
theorem HM.In.lpR {x : HM} {B : Int} (h : x.In B) (hB2 : B + 2 < 4611686018427387904) {t k : Nat} (ht : t < 8) (hk : k < 16) : (x.lpR t k).In (B + 3) := by
  have h1 := h.look (t := t) (by omega) hk
  unfold HM.lpR
  cases hq : x.lkU t k with
  | none => exact h1.mono (by omega)
  | some u =>
    have h2 := h1.pu (by omega) (h.lkU hk hq) (s := (x.look t k).rs t) ⟨by have := (h1.rs ht).1; omega, (h1.rs ht).2⟩
    rw [show B + 2 + 1 = B + 3 by omega] at h2
    exact h2
theorem HM.In.lpW {x : HM} {B : Int} (h : x.In B) (hB2 : B + 2 < 4611686018427387904) {t k : Nat} (ht : t < 8) (hk : k < 16) : (x.lpW t k).In (B + 3) := by
  have h1 := h.look (t := t) (by omega) hk
  unfold HM.lpW
  cases hq : x.lkU t k with
  | none => exact h1.mono (by omega)
  | some u =>
    have h2 := h1.pu (by omega) (h.lkU hk hq) (s := (x.look t k).ws t) ⟨by have := (h1.ws ht).1; omega, (h1.ws ht).2⟩
    rw [show B + 2 + 1 = B + 3 by omega] at h2
    exact h2
theorem HM.In.mk {x : HM} {B : Int} (h : x.In B) {k : Nat} (hk : k < 16) {s : Int64} (hs : 0 ≤ s.toInt ∧ s.toInt ≤ B) : (x.mk k s).In B := by
  refine h.u_lr k ?_
  split
  · exact h.lr hk
  · exact hs
theorem HM.In.rdX {z : HM} {B : Int} (h : z.In B) {t k : Nat} (ht : t < 8) (hk : k < 16) : (z.rdX t k).In B := by
  unfold HM.rdX
  cases hq : hs_best (z.rs t) (z.lm t) (z.vk k) with
  | none => exact (h.mk hk (h.rs ht)).u_se t _
  | some v => exact h.re ht (h.vk (hs_best_mem hq).1).2
theorem HM.In.rdM {x : HM} {B : Int} (h : x.In B) (hB2 : B + 2 < 4611686018427387904) {t k : Nat} (ht : t < 8) (hk : k < 16) : (x.rdM t k).In (B + 3) := by
  unfold HM.rdM
  split
  · exact h.mono (by omega)
  · exact (h.lpR hB2 ht hk).rdX ht hk
theorem HM.In.wr1 {x : HM} {B : Int} (h : x.In B) (hB2 : B + 2 < 4611686018427387904) {t k : Nat} (hk : k < 16) : (x.wr1 t k).In (B + 2) := by
  have h1 := h.look (t := t) (by omega) hk
  unfold HM.wr1
  cases hq : x.lkU t k with
  | none => exact h1
  | some u => exact (h1.re (h.lkU hk hq) (by have := h.2.2.2.2.2.2.2.2.2; have e : (0 : Int64).toInt = 0 := by decide
                                             rw [e]; omega)).u_hu u 1
theorem HM.In.wr2 {y : HM} {B : Int} (h : y.In B) (hB2 : B + 1 < 4611686018427387904) {t k : Nat} (ht : t < 8) (hk : k < 16) : (y.wr2 t k).In (B + 2) := by
  have h1 := h.pu (by omega) ht (s := y.lr k) ⟨by have := (h.lr hk).1; omega, (h.lr hk).2⟩
  have h2 := h1.pu (by omega) ht (h1.gs (-1) 9223372036854775807 k)
  rw [show B + 1 + 1 = B + 2 by omega] at h2
  exact h2
theorem hs_wr2_vk (y : HM) (t k j : Nat) : (y.wr2 t k).vk j = y.vk j := rfl
theorem HM.In.wrM {x : HM} {B : Int} (h : x.In B) (hB2 : B + 4 < 4611686018427387904) {t k : Nat} (ht : t < 8) (hk : k < 16) (v : Int32) : (x.wrM t k v).In (B + 4) := by
  unfold HM.wrM
  split
  · exact (h.mono (by omega)).u_pl k v
  · split
    · exact (h.look (by omega) hk).mono (by omega)
    · split
      · exact (h.wr1 (by omega) hk).mono (by omega)
      · rename_i c
        have h2 := (h.wr1 (t := t) (by omega) hk).wr2 (by omega) ht hk
        have h3 := (h2.u_hdS ht (k := k) (by rw [hs_wr2_vk]; omega)).u_pl k v
        rw [show B + 2 + 2 = B + 4 by omega] at h3
        exact h3
theorem HM.In.mr1 {x : HM} {B : Int} (h : x.In B) (hB2 : B + 3 < 4611686018427387904) {t k : Nat} (ht : t < 8) (hk : k < 16) : (x.mr1 t k).In (B + 4) := by
  have hm : k % 4 < 4 := Nat.mod_lt _ (by decide)
  have h1 := h.tk (by omega) hm (h.ck (h.gt ht))
  have h2 := h1.lpW (by omega) ht hk
  rw [show B + 1 + 3 = B + 4 by omega] at h2
  exact h2
theorem HM.In.mr2 {x : HM} {B : Int} (h : x.In B) (hB2 : B + 3 < 4611686018427387904) {t k : Nat} (ht : t < 8) (hk : k < 16) : (x.mr2 t k).In (B + 4) := by
  have h1 := h.mr1 hB2 ht hk
  unfold HM.mr2
  split
  · exact h1
  · exact h1.mk hk (h1.ws ht)
theorem HM.In.mrM {x : HM} {B : Int} (h : x.In B) (hB2 : B + 4 < 4611686018427387904) {t k : Nat} (ht : t < 8) (hk : k < 16) : (x.mrM t k).In (B + 5) := by
  have hm : k % 4 < 4 := Nat.mod_lt _ (by decide)
  have h1 := h.mr2 (by omega) ht hk
  have h2 := h1.tk (by omega) (h1.gt ht) (h1.ck hm)
  rw [show B + 4 + 1 = B + 5 by omega] at h2
  exact h2
theorem HM.In.mrs {t : Nat} (ht : t < 8) : ∀ (n k : Nat) (x : HM) (B : Int), k + n = 16 → x.In B → B + 5 * n < 4611686018427387904 → (hs_mrs t n k x).1.In (B + 5 * n) := by
  intro n
  induction n with
  | zero => intro k x B _ h _; exact h.mono (by omega)
  | succ n ih =>
    intro k x B hk h hB
    have h1 := h.mrM (k := k) (by omega) ht (by omega)
    rw [hs_mrs_succ]
    split
    · split
      · exact h1.mono (by omega)
      · exact (ih (k + 1) _ (B + 5) (by omega) h1 (by omega)).mono (by omega)
    · exact (ih (k + 1) x B (by omega) h (by omega)).mono (by omega)
/-! the set of keys read as bits -/
theorem hs_mn_lt (f : Nat → Bool) : ∀ n, hs_mn f n < 2 ^ n := by
  intro n
  induction n with
  | zero => exact Nat.one_pos
  | succ n ih => rw [hs_mn, Nat.pow_succ]; split <;> omega
theorem hs_mn_bit (f : Nat → Bool) : ∀ n j, (hs_mn f n).testBit j = (decide (j < n) && f j) := by
  intro n
  induction n with
  | zero => intro j; simp [hs_mn]
  | succ n ih =>
    intro j
    have hlt := hs_mn_lt f n
    rw [hs_mn]
    by_cases hf : f n = true
    · rw [if_pos hf]
      by_cases e : j = n
      · subst e; rw [Nat.testBit_two_pow_add_eq, Nat.testBit_lt_two_pow hlt]; simp [hf]
      · by_cases q : j < n
        · rw [Nat.testBit_two_pow_add_gt q, ih]; simp [q, show j < n + 1 by omega]
        · have : 2 ^ n + hs_mn f n < 2 ^ j := by
            have h1 : 2 ^ (n + 1) ≤ 2 ^ j := Nat.pow_le_pow_right (by decide) (by omega)
            rw [Nat.pow_succ] at h1; omega
          rw [Nat.testBit_lt_two_pow this]; simp [show ¬ j < n + 1 by omega]
    · rw [if_neg hf, Nat.zero_add, ih]
      by_cases e : j = n
      · subst e; simp [hf]
      · by_cases q : j < n
        · simp [q, show j < n + 1 by omega]
        · simp [q, show ¬ j < n + 1 by omega]
theorem hs_bit_eq : ∀ k, k < 16 → hs_bit k = nI (2 ^ k) := by decide
theorem hs_nIor (a b : Nat) : nI a ||| nI b = nI (a ||| b) := by
  apply Int32.toBitVec_inj.mp
  show BitVec.ofNat 32 a ||| BitVec.ofNat 32 b = BitVec.ofNat 32 (a ||| b)
  simp
theorem hs_nIand (a b : Nat) : nI a &&& nI b = nI (a &&& b) := by
  apply Int32.toBitVec_inj.mp
  show BitVec.ofNat 32 a &&& BitVec.ofNat 32 b = BitVec.ofNat 32 (a &&& b)
  simp
theorem hs_mask_or (f : Nat → Bool) {k : Nat} (hk : k < 16) : hs_mask f ||| hs_bit k = hs_mask (va_up f k true) := by
  rw [hs_bit_eq k hk, hs_mask, hs_mask, hs_nIor]
  congr 1
  apply Nat.eq_of_testBit_eq
  intro j
  rw [Nat.testBit_or, hs_mn_bit, hs_mn_bit, Nat.testBit_two_pow]
  by_cases e : j = k
  · subst e; simp [va_up_self, hk]
  · rw [va_up_ne _ _ e]; simp [Ne.symm e]
theorem hs_mask_and (f : Nat → Bool) {k : Nat} (hk : k < 16) : (hs_mask f &&& hs_bit k) = 0 ↔ f k = false := by
  rw [hs_bit_eq k hk, hs_mask, hs_nIand]
  have e : hs_mn f 16 &&& 2 ^ k = if f k then 2 ^ k else 0 := by
    apply Nat.eq_of_testBit_eq
    intro j
    rw [Nat.testBit_and, hs_mn_bit, Nat.testBit_two_pow]
    by_cases e : k = j
    · subst e; cases hf : f k <;> simp [hk, hf, Nat.testBit_two_pow]
    · cases hf : f k <;> simp [e, hf, Nat.testBit_two_pow]
  rw [e]
  have h2 : 2 ^ k ≤ 2 ^ 15 := Nat.pow_le_pow_right (by decide) (by omega)
  have h3 : 0 < 2 ^ k := Nat.two_pow_pos k
  cases hf : f k with
  | false => simp; rfl
  | true =>
    simp only [if_true]
    exact ⟨fun q => absurd q (nI_ne0 h3 (by omega)), fun q => by cases q⟩
theorem hc_s_seOr {ad : Nat → Nat} {cy : Nat → ClassId} {x : HM} {i k : Nat} (hi : i < 8) (hk : k < 16) : (hc_mem ad cy x).set (57 + i) (ad (57 + i), .inr (2, (hc_txL ad x i).set 7 (.int (hs_mask (x.se i) ||| hs_bit k)))) = hc_mem ad cy (x.u_se i (va_up (x.se i) k true)) := by
  rw [hs_mask_or _ hk]; exact hc_s_se hi
theorem hs_sil_bi (x : HM) (u : Nat) : (x.sil u).bi = x.bi := by unfold HM.sil; split <;> rfl
theorem hs_stl_bi (x : HM) (k u : Nat) : (x.stl k u).bi = x.bi := by unfold HM.stl; split <;> rfl
theorem hs_lk_bi (x : HM) (k u : Nat) : (x.lk k u).bi = x.bi := by
  have h : (x.lk3 k u).bi = x.bi := hs_sil_bi _ _
  unfold HM.lk
  split
  · exact h
  · rw [hs_stl_bi]; exact h
theorem hs_look_bi (x : HM) (t k : Nat) : (x.look t k).bi = x.bi := by
  unfold HM.look
  cases x.hd k with
  | none => rfl
  | some u => dsimp only; split
              · rfl
              · exact hs_lk_bi _ _ _

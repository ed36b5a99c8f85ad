/-! ===== the fourteen calls as functions of the state ===== -/
def hs_n (b : Nat) (z : Int32) : Option Nat := if z < 0 ∨ nI b ≤ z then none else some z.toNatClampNeg
theorem hs_n_in {b j : Nat} (h : j < b) (hb : b < 2 ^ 31) : hs_n b (nI j) = some j := by
  unfold hs_n
  rw [if_neg (fun q => q.elim (nI_pos (by omega)) (nI_ge h hb)), nI_clamp (by omega)]
theorem hs_n_out {b : Nat} {z : Int32} (h : z < 0 ∨ nI b ≤ z) : hs_n b z = none := if_pos h
def HM.tickM (x : HM) (z r : Int32) : HM := match hs_n 4 z with
  | none => x
  | some i => if r < x.rd i then x else if hs_ra x.rd i r 4 0 then x else (x.u_rd i r).ev i
def HM.tickA (x : HM) (z r : Int32) : Int32 := match hs_n 4 z with
  | none => -1
  | some i => if r < x.rd i then -2 else if hs_ra x.rd i r 4 0 then -2 else 0
def HM.readingA (x : HM) (z : Int32) : Int32 := match hs_n 4 z with
  | none => -1
  | some i => x.rd i
def HM.clockA (x : HM) (z : Int32) : Int64 := match hs_n 4 z with
  | none => -1
  | some i => x.ck i
def HM.bgn (x : HM) (i t : Nat) : HM := ((x.ev i).beg t i x.bs).s_bs (x.bs + 1)
def HM.beginM (x : HM) (z : Int32) : HM := match hs_n 4 z with
  | none => x
  | some i => match hs_fr x.ph 8 0 with
    | none => x
    | some t => x.bgn i t
def HM.beginA (x : HM) (z : Int32) : Int32 := match hs_n 4 z with
  | none => -1
  | some _ => match hs_fr x.ph 8 0 with
    | none => -3
    | some t => nI t
def HM.opn (y : HM) (t k : Nat) : HM := (y.ev (y.gt t)).tk (k % 4) ((y.ev (y.gt t)).ck ((y.ev (y.gt t)).gt t))
def HM.cls (y : HM) (t k : Nat) : HM := y.tk (y.gt t) (y.ck (k % 4))
def HM.readM (x : HM) (z w : Int32) : HM := match hs_n 8 z with
  | none => x
  | some t => match hs_n 16 w with
    | none => x
    | some k => if x.stc t = 0 then (((x.stp t).opn t k).rdM t k).cls t k else x.stp t
def HM.readA (x : HM) (z w : Int32) : Int64 := match hs_n 8 z with
  | none => 4294967295
  | some t => match hs_n 16 w with
    | none => 4294967295
    | some k => if x.stc t = 0 then ((x.stp t).opn t k).rdA t k else 4294967296 + Int32.toInt64 (x.stc t)
def HM.writeM (x : HM) (z w v : Int32) : HM := match hs_n 8 z with
  | none => x
  | some t => match hs_n 16 w with
    | none => x
    | some k => if x.stc t = 0 then (((x.stp t).opn t k).wrM t k v).cls t k else x.stp t
def HM.writeA (x : HM) (z w : Int32) : Int32 := match hs_n 8 z with
  | none => -1
  | some t => match hs_n 16 w with
    | none => -1
    | some k => if x.stc t = 0 then ((x.stp t).opn t k).wrA t k else x.stc t
def HM.fin1 (y : HM) (t : Nat) : HM := (y.u_rs t (y.ws t)).u_ph t 2
def HM.fin (y : HM) (t : Nat) : HM := (y.fin1 t).s_cm ((y.fin1 t).cm ++ [(y.fin1 t).ws t])
def HM.cmtM (y : HM) (t : Nat) : HM := if y.rs t < y.ws t then (if (hs_mrs t 16 0 y).2 then (hs_mrs t 16 0 y).1.fin t else (hs_mrs t 16 0 y).1.re t 0) else y.fin t
def HM.cmtA (y : HM) (t : Nat) : Int32 := if y.rs t < y.ws t then (if (hs_mrs t 16 0 y).2 then 0 else 1) else 0
def HM.commitM (x : HM) (z : Int32) : HM := match hs_n 8 z with
  | none => x
  | some t => if x.stc t = 0 then ((x.stp t).ev ((x.stp t).gt t)).cmtM t else x.stp t
def HM.commitA (x : HM) (z : Int32) : Int32 := match hs_n 8 z with
  | none => -1
  | some t => if x.stc t = 0 then ((x.stp t).ev ((x.stp t).gt t)).cmtA t else x.stc t
def HM.abortM (x : HM) (z : Int32) : HM := match hs_n 8 z with
  | none => x
  | some t => if x.code t = 0 then x.u_ph t 3 else x
def HM.codeA (x : HM) (z : Int32) : Int32 := match hs_n 8 z with
  | none => -1
  | some t => x.code t
def HM.beat (y : HM) (t : Nat) : HM := y.u_bt t (y.rd (y.gt t))
def HM.heartM (x : HM) (z : Int32) : HM := match hs_n 8 z with
  | none => x
  | some t => if x.code t = 0 then (x.ev (x.gt t)).beat t else x
def HM.clk (x : HM) (t k : Nat) : HM := if x.hd k = some t then (x.tk (k % 4) (x.ck (x.gt t))).stl k t else x
def hs_cl (t : Nat) : Nat → Nat → HM → HM
  | 0, _, x => x
  | n + 1, k, x => hs_cl t n (k + 1) (x.clk t k)
theorem hs_cl_succ (t n k : Nat) (x : HM) : hs_cl t (n + 1) k x = hs_cl t n (k + 1) (x.clk t k) := rfl
def HM.cleanM (x : HM) (z : Int32) : HM := match hs_n 8 z with
  | none => x
  | some t => if x.ph t = 0 then x else if x.ph t = 1 then x else (hs_cl t 16 0 x).u_ph t 0
def HM.cleanA (x : HM) (z : Int32) : Int32 := match hs_n 8 z with
  | none => -1
  | some t => if x.ph t = 0 then -4 else if x.ph t = 1 then -9 else 0
def HM.stateA (x : HM) (z : Int32) : Int32 := match hs_n 8 z with
  | none => -1
  | some t => x.ph t
def HM.stampA (x : HM) (z : Int32) : Int64 := match hs_n 8 z with
  | none => -1
  | some t => if x.ph t = 0 then -1 else if x.ph t = 3 then -1 else x.rs t
def HM.versionsA (x : HM) (z : Int32) : Int32 := match hs_n 16 z with
  | none => -1
  | some k => nI (x.vk k).length
def HM.committedA (x : HM) (z : Int32) : Int64 := if z < 0 then -1 else if nI x.cm.length ≤ z then -1 else x.cm.getD z.toNatClampNeg 0
theorem HM.In.stp {x : HM} {B : Int} (h : x.In B) (t : Nat) : (x.stp t).In B := by
  unfold HM.stp
  split
  · exact h.u_hu t 0
  · exact h
theorem HM.In.opn {x : HM} {B : Int} (h : x.In B) (hB2 : B + 1 < 4611686018427387904) {t k : Nat} (ht : t < 8) : (x.opn t k).In (B + 2) := by
  have hm : k % 4 < 4 := Nat.mod_lt _ (by decide)
  have h1 := h.ev (by omega) (h.gt ht)
  have h2 := h1.tk (by omega) hm (h1.ck (h1.gt ht))
  rw [show B + 1 + 1 = B + 2 by omega] at h2
  exact h2
theorem HM.In.clk {x : HM} {B : Int} (h : x.In B) (hB2 : B < 4611686018427387904) {t k : Nat} (ht : t < 8) (hk : k < 16) : (x.clk t k).In (B + 1) := by
  have hm : k % 4 < 4 := Nat.mod_lt _ (by decide)
  unfold HM.clk
  split
  · rename_i c
    exact (h.tk hB2 hm (h.ck (h.gt ht))).stl hk ht (h.lt16 hk (by rw [c]; rfl))
  · exact h.mono (by omega)
theorem HM.In.cl {t : Nat} (ht : t < 8) : ∀ (n k : Nat) (x : HM) (B : Int), k + n = 16 → x.In B → B + n < 4611686018427387904 → (hs_cl t n k x).In (B + n) := by
  intro n
  induction n with
  | zero => intro k x B _ h _; exact h.mono (by omega)
  | succ n ih =>
    intro k x B hk h hB
    rw [hs_cl_succ]
    exact (ih (k + 1) _ (B + 1) (by omega) (h.clk (by omega) ht (by omega)) (by omega)).mono (by omega)
theorem hs_stp_bi (x : HM) (t : Nat) : (x.stp t).bi = x.bi := by unfold HM.stp; split <;> rfl
theorem hs_fr_lt' {f : Nat → Int32} : ∀ {n i t : Nat}, hs_fr f n i = some t → i ≤ t ∧ t < i + n ∧ f t = 0 := by
  intro n
  induction n with
  | zero => intro i t h; cases h
  | succ n ih =>
    intro i t h
    rw [hs_fr_succ] at h
    split at h
    · rename_i c; cases h; exact ⟨by omega, by omega, c⟩
    · have := ih h; exact ⟨by omega, by omega, this.2.2⟩
theorem hs_fr_lt {f : Nat → Int32} {t : Nat} (h : hs_fr f 8 0 = some t) : t < 8 := by have := hs_fr_lt' h; omega
theorem hs_nI_m1 {t : Nat} (h : t < 2 ^ 31) : ¬ nI t = -1 := fun q => by
  have := nI_pos h
  rw [q] at this
  exact absurd (by decide) this
theorem hc_s_bs {ad : Nat → Nat} {cy : Nat → ClassId} {x : HM} {b : Nat} : (hc_mem ad cy x).set 0 (ad 0, .inr (3, (hc_storeL ad x).set 5 (.int (nI b)))) = hc_mem ad cy (x.s_bs b) :=
  hc_set 0 rfl (fun j hj hne => by
    have : j = 1 ∨ j = 2 ∨ j = 3 ∨ j = 4 := by omega
    rcases this with rfl | rfl | rfl | rfl <;> rfl) (fun _ _ => rfl) (fun _ _ => rfl) (fun _ _ => rfl) (fun _ _ => rfl) (fun _ _ => rfl)

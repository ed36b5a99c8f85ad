/-! ===== what the calls do, as functions of the state (the document's words, in the order of the class) ===== -/
def hs_tk (r : Int32) (c s : Int64) : Int64 := if (Int32.toInt64 r * 1048576) < ((if s < c then c else s) + 1) then ((if s < c then c else s) + 1) else (Int32.toInt64 r * 1048576)
/-- node i takes in the stamp s -/
def HM.tk (x : HM) (i : Nat) (s : Int64) : HM := x.u_ck i (hs_tk (x.rd i) (x.ck i) s)
/-- an event at node i -/
def HM.ev (x : HM) (i : Nat) : HM := x.tk i (x.ck i)
/-- the code of a slot's state -/
def HM.code (x : HM) (t : Nat) : Int32 := if x.ph t = 1 then 0 else if x.ph t = 2 then -8 else if x.ph t = 3 then -6 else -4
/-- the stopping code, and the state behind it -/
def HM.stc (x : HM) (t : Nat) : Int32 := if x.code t = 0 ∧ ¬ x.hu t = 0 then 1 else x.code t
def HM.stp (x : HM) (t : Nat) : HM := if x.code t = 0 ∧ ¬ x.hu t = 0 then x.u_hu t 0 else x
/-- the write stamp of t is pushed above s -/
def HM.pu (x : HM) (t : Nat) (s : Int64) : HM := x.u_ws t (if x.ws t ≤ s then s + 1 else x.ws t)
/-- the part of a restart that is in the transaction itself -/
def HM.mv1 (x : HM) (t : Nat) : HM := x.u_se t (fun _ => false)
def HM.mv2 (x : HM) (t : Nat) (a : Int64) : HM := (x.mv1 t).u_ws t (if a < (x.mv1 t).ws t then (x.mv1 t).ws t else a)
def HM.mv3 (x : HM) (t : Nat) (a : Int64) : HM := (x.mv2 t a).u_rs t ((x.mv2 t a).ws t)
def HM.mv (x : HM) (t : Nat) (a : Int64) : HM := (x.mv3 t a).u_lm t (if (x.mv3 t a).rs t < (x.mv3 t a).lm t then (x.mv3 t a).lm t else (x.mv3 t a).rs t)
/-- the intents of t on keys below n are gone -/
def HM.clr (x : HM) (t n : Nat) : HM := x.s_hd (fun k => if k < n ∧ x.hd k = some t then none else x.hd k)
def HM.re (x : HM) (t : Nat) (a : Int64) : HM := (x.clr t 16).mv t a
/-- the intent of u on key k becomes a version, or nothing -/
def HM.add (x : HM) (k : Nat) (s : Int64) (v : Int32) : HM := x.s_vs (x.vs ++ [(k, s, v)])
def HM.stl (x : HM) (k u : Nat) : HM := (if x.ph u = 2 then x.add k (x.ws u) (x.pl k) else x).u_hd k none
def HM.sil (x : HM) (u : Nat) : HM := if x.ph u = 1 ∧ 40 < x.rd (x.gt u) - x.bt u then x.u_ph u 3 else x
/-- key k with an intent of u is looked up -/
def HM.lk1 (x : HM) (k u : Nat) : HM := x.tk (x.gt u) (x.ck (k % 4))
def HM.lk2 (x : HM) (k u : Nat) : HM := (x.lk1 k u).tk (k % 4) ((x.lk1 k u).ck (x.gt u))
def HM.lk3 (x : HM) (k u : Nat) : HM := (x.lk2 k u).sil u
def HM.lk (x : HM) (k u : Nat) : HM := if (x.lk3 k u).ph u = 1 then x.lk3 k u else (x.lk3 k u).stl k u
def HM.look (x : HM) (t k : Nat) : HM := match x.hd k with
  | none => x
  | some u => if u = t then x else x.lk k u
/-- who stands in the way -/
def HM.lkU (x : HM) (t k : Nat) : Option Nat := match x.hd k with
  | none => none
  | some u => if u = t then none else if (x.lk3 k u).ph u = 1 then some u else none
/-- the version with the greatest stamp above a and not above u -/
def hs_fb (a u : Int64) (acc : Option (Int64 × Int32)) (v : Int64 × Int32) : Option (Int64 × Int32) := if (match acc with | none => a | some w => w.1) < v.1 ∧ v.1 ≤ u then some v else acc
def hs_best (a u : Int64) (l : List (Int64 × Int32)) : Option (Int64 × Int32) := l.foldl (hs_fb a u) none
def hs_fl (f : Nat → Int64) (a : Int64) (o : Option Nat) : Int64 := match o with
  | none => a
  | some j => f j
def hs_bi (f : Nat → Int64) (a u : Int64) : Nat → Option Nat
  | 0 => none
  | n + 1 => if hs_fl f a (hs_bi f a u n) < f n ∧ f n ≤ u then some n else hs_bi f a u n
def hs_ix (o : Option Nat) : Int32 := match o with
  | none => -1
  | some j => nI j
def hs_gs (o : Option (Int64 × Int32)) : Int64 := match o with
  | none => -1
  | some v => v.1
def hs_gv (o : Option (Int64 × Int32)) : Int32 := match o with
  | none => 0
  | some v => v.2
/-- a transaction begins in slot t at node g -/
def HM.beg (x : HM) (t g b : Nat) : HM := ((((((((x.u_ph t 1).u_gt t g).u_bt t (x.rd g)).u_bi t b).u_rs t (x.ck g)).u_ws t (x.ck g)).u_lm t (((x.ck g / 1048576) + 10) * 1048576 + 1048575)).u_se t (fun _ => false)).u_hu t 0
/-! small laws of these -/
theorem hc_hdS {ad : Nat → Nat} {x : HM} {k u : Nat} (h : x.hd k = some u) : (hc_keyL ad x k)[6]? = some (.ref (ad (57 + u))) := by
  show some (va_rf (Option.map (fun t => ad (57 + t)) (x.hd k))) = _
  rw [h]; rfl
theorem hc_hdN {ad : Nat → Nat} {x : HM} {k : Nat} (h : x.hd k = none) : (hc_keyL ad x k)[6]? = some .null := by
  show some (va_rf (Option.map (fun t => ad (57 + t)) (x.hd k))) = _
  rw [h]; rfl
theorem hs_pu {w s : Int64} (h : s < 9223372036854775807) : (if s + 1 < w then w else s + 1) = (if w ≤ s then s + 1 else w) := by
  have h1 : (s + 1).toInt = s.toInt + 1 := by
    have h2 := Int64.lt_iff_toInt_lt.mp h
    have h3 : (9223372036854775807 : Int64).toInt = 9223372036854775807 := by decide
    have h4 := Int64.le_toInt s
    rw [Int64.toInt_add]
    rw [h3] at h2
    have h5 : (1 : Int64).toInt = 1 := by decide
    rw [h5]
    exact Int.bmod_eq_of_le (by omega) (by omega)
  by_cases a : w ≤ s
  · have : ¬ s + 1 < w := by rw [Int64.lt_iff_toInt_lt, h1]; have := Int64.le_iff_toInt_le.mp a; omega
    simp [a, this]
  · by_cases b : s + 1 < w
    · simp [a, b]
    · have : s + 1 = w := by
        apply Int64.toInt_inj.mp
        rw [Int64.lt_iff_toInt_lt, h1] at b
        rw [Int64.le_iff_toInt_le] at a
        rw [h1]; omega
      simp [a, this]
theorem hs_out {z : Int32} (h1 : ¬ z = 1) (h2 : ¬ z = 2) (h3 : ¬ z = 3) : z.toInt < 1 ∨ 3 < z.toInt := by
  have e1 : ¬ z.toInt = 1 := fun q => h1 (Int32.toInt_inj.mp q)
  have e2 : ¬ z.toInt = 2 := fun q => h2 (Int32.toInt_inj.mp q)
  have e3 : ¬ z.toInt = 3 := fun q => h3 (Int32.toInt_inj.mp q)
  omega
theorem hs_mask_0 : hs_mask (fun _ => false) = 0 := by decide
theorem hc_s_se0 {ad : Nat → Nat} {cy : Nat → ClassId} {x : HM} {i : Nat} (hi : i < 8) : (hc_mem ad cy x).set (57 + i) (ad (57 + i), .inr (2, (hc_txL ad x i).set 7 (.int 0))) = hc_mem ad cy (x.u_se i (fun _ => false)) := by
  rw [← hs_mask_0]; exact hc_s_se hi

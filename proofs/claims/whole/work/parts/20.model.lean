/-! ===== the reference: one object and eighteen arrays ===== -/
def hm_ho (o : Option Nat) : Int32 := match o with
  | none => 0
  | some t => nI (t + 1)
def hm_gt (x : HM) : Nat → Int32 := fun t => nI (x.gt t)
def hm_bi (x : HM) : Nat → Int64 := fun t => lN (x.bi t)
def hm_se (x : HM) : Nat → Int32 := fun j => if x.se (j / 16) (j % 16) then 1 else 0
def hm_cm (x : HM) : Nat → Int64 := fun i => x.cm.getD i 0
def hm_hd (x : HM) : Nat → Int32 := fun k => hm_ho (x.hd k)
def hm_vk (x : HM) : Nat → Int32 := fun i => nI (x.vs.getD i (0, 0, 0)).1
def hm_va (x : HM) : Nat → Int64 := fun i => (x.vs.getD i (0, 0, 0)).2.1
def hm_vv (x : HM) : Nat → Int32 := fun i => (x.vs.getD i (0, 0, 0)).2.2
def hm_objL (bd : Nat → Nat) (x : HM) : List Value := [.ref (bd 1), .ref (bd 2), .ref (bd 3), .ref (bd 4), .ref (bd 5), .ref (bd 6), .ref (bd 7), .ref (bd 8), .ref (bd 9), .ref (bd 10), .ref (bd 11), .long (lN x.bs), .int (nI x.cm.length), .ref (bd 12), .ref (bd 13), .ref (bd 14), .ref (bd 15), .int (nI x.vs.length), .ref (bd 16), .ref (bd 17), .ref (bd 18)]
def hm_mem (bd : Nat → Nat) (cy : Nat → ClassId) (x : HM) : va_W := [(bd 0, .inr (4, hm_objL bd x)), (bd 1, .inl (cy 0, 4, .inl (x.rd))), (bd 2, .inl (cy 1, 4, .inr (.inl (x.ck)))), (bd 3, .inl (cy 0, 8, .inl (x.ph))), (bd 4, .inl (cy 0, 8, .inl (hm_gt x))), (bd 5, .inl (cy 0, 8, .inl (x.bt))), (bd 6, .inl (cy 1, 8, .inr (.inl (hm_bi x)))), (bd 7, .inl (cy 1, 8, .inr (.inl (x.rs)))), (bd 8, .inl (cy 1, 8, .inr (.inl (x.ws)))), (bd 9, .inl (cy 1, 8, .inr (.inl (x.lm)))), (bd 10, .inl (cy 2, 8, .inl (x.hu))), (bd 11, .inl (cy 2, 128, .inl (hm_se x))), (bd 12, .inl (cy 1, 512, .inr (.inl (hm_cm x)))), (bd 13, .inl (cy 1, 16, .inr (.inl (x.lr)))), (bd 14, .inl (cy 0, 16, .inl (hm_hd x))), (bd 15, .inl (cy 0, 16, .inl (x.pl))), (bd 16, .inl (cy 0, 256, .inl (hm_vk x))), (bd 17, .inl (cy 1, 256, .inr (.inl (hm_va x)))), (bd 18, .inl (cy 0, 256, .inl (hm_vv x)))]
def hm_ok (bd : Nat → Nat) : Prop := ∀ i, i < 19 → ∀ j, j < 19 → bd i = bd j → i = j
def hm_A (bd : Nat → Nat) : Nat → Prop := fun q => ∃ j, j < 19 ∧ q = bd j
theorem hm_D {bd : Nat → Nat} (ho : hm_ok bd) (cy : Nat → ClassId) (x : HM) : va_D (hm_A bd) (hm_mem bd cy x) := by
  have hf : (hm_mem bd cy x).map Prod.fst = (List.range 19).map bd := rfl
  have key : ∀ (k : Nat) (q : Nat × va_E), (hm_mem bd cy x)[k]? = some q → k < 19 ∧ q.1 = bd k := by
    intro k q h
    have h1 : ((hm_mem bd cy x).map Prod.fst)[k]? = some q.1 := by rw [List.getElem?_map, h]; rfl
    rw [hf] at h1
    by_cases hk : k < 19
    · refine ⟨hk, ?_⟩
      simp [hk] at h1
      exact h1.symm
    · simp [hk] at h1
  refine ⟨fun i j p q hp hq e => ?_, fun k q h => ?_⟩
  · obtain ⟨h1, h2⟩ := key i p hp
    obtain ⟨h3, h4⟩ := key j q hq
    exact ho i h1 j h3 (by rw [← h2, ← h4]; exact e)
  · obtain ⟨h1, h2⟩ := key k q h
    exact ⟨k, h1, h2⟩
/-! a place of an array is set -/
theorem hm_s_rd {bd : Nat → Nat} {cy : Nat → ClassId} {x : HM} {i : Nat} {v : Int32} : (hm_mem bd cy x).set 1 (bd 1, .inl (cy 0, 4, .inl (upd (x.rd) i (v)))) = hm_mem bd cy (x.u_rd i v) := rfl
theorem hm_s_ck {bd : Nat → Nat} {cy : Nat → ClassId} {x : HM} {i : Nat} {v : Int64} : (hm_mem bd cy x).set 2 (bd 2, .inl (cy 1, 4, .inr (.inl (vp_updL (x.ck) i (v))))) = hm_mem bd cy (x.u_ck i v) := rfl
theorem hm_s_ph {bd : Nat → Nat} {cy : Nat → ClassId} {x : HM} {i : Nat} {v : Int32} : (hm_mem bd cy x).set 3 (bd 3, .inl (cy 0, 8, .inl (upd (x.ph) i (v)))) = hm_mem bd cy (x.u_ph i v) := rfl
theorem hm_s_bt {bd : Nat → Nat} {cy : Nat → ClassId} {x : HM} {i : Nat} {v : Int32} : (hm_mem bd cy x).set 5 (bd 5, .inl (cy 0, 8, .inl (upd (x.bt) i (v)))) = hm_mem bd cy (x.u_bt i v) := rfl
theorem hm_s_rs {bd : Nat → Nat} {cy : Nat → ClassId} {x : HM} {i : Nat} {v : Int64} : (hm_mem bd cy x).set 7 (bd 7, .inl (cy 1, 8, .inr (.inl (vp_updL (x.rs) i (v))))) = hm_mem bd cy (x.u_rs i v) := rfl
theorem hm_s_ws {bd : Nat → Nat} {cy : Nat → ClassId} {x : HM} {i : Nat} {v : Int64} : (hm_mem bd cy x).set 8 (bd 8, .inl (cy 1, 8, .inr (.inl (vp_updL (x.ws) i (v))))) = hm_mem bd cy (x.u_ws i v) := rfl
theorem hm_s_lm {bd : Nat → Nat} {cy : Nat → ClassId} {x : HM} {i : Nat} {v : Int64} : (hm_mem bd cy x).set 9 (bd 9, .inl (cy 1, 8, .inr (.inl (vp_updL (x.lm) i (v))))) = hm_mem bd cy (x.u_lm i v) := rfl
theorem hm_s_hu {bd : Nat → Nat} {cy : Nat → ClassId} {x : HM} {i : Nat} {v : Int32} : (hm_mem bd cy x).set 10 (bd 10, .inl (cy 2, 8, .inl (upd (x.hu) i (v)))) = hm_mem bd cy (x.u_hu i v) := rfl
theorem hm_s_lr {bd : Nat → Nat} {cy : Nat → ClassId} {x : HM} {i : Nat} {v : Int64} : (hm_mem bd cy x).set 13 (bd 13, .inl (cy 1, 16, .inr (.inl (vp_updL (x.lr) i (v))))) = hm_mem bd cy (x.u_lr i v) := rfl
theorem hm_s_pl {bd : Nat → Nat} {cy : Nat → ClassId} {x : HM} {i : Nat} {v : Int32} : (hm_mem bd cy x).set 15 (bd 15, .inl (cy 0, 16, .inl (upd (x.pl) i (v)))) = hm_mem bd cy (x.u_pl i v) := rfl
theorem hm_f_gt {x : HM} {i v : Nat} : upd (hm_gt x) i (nI v) = hm_gt (x.u_gt i v) := by
  funext j
  show (if j = i then nI v else nI (x.gt j)) = nI (if j = i then v else x.gt j)
  split <;> rfl
theorem hm_s_gt {bd : Nat → Nat} {cy : Nat → ClassId} {x : HM} {i v : Nat} : (hm_mem bd cy x).set 4 (bd 4, .inl (cy 0, 8, .inl (upd (hm_gt x) i (nI v)))) = hm_mem bd cy (x.u_gt i v) := by
  rw [hm_f_gt]; rfl
theorem hm_f_bi {x : HM} {i v : Nat} : vp_updL (hm_bi x) i (lN v) = hm_bi (x.u_bi i v) := by
  funext j
  show (if j = i then lN v else lN (x.bi j)) = lN (if j = i then v else x.bi j)
  split <;> rfl
theorem hm_s_bi {bd : Nat → Nat} {cy : Nat → ClassId} {x : HM} {i v : Nat} : (hm_mem bd cy x).set 6 (bd 6, .inl (cy 1, 8, .inr (.inl (vp_updL (hm_bi x) i (lN v))))) = hm_mem bd cy (x.u_bi i v) := by
  rw [hm_f_bi]; rfl
theorem hm_f_hdN {x : HM} {i : Nat} : upd (hm_hd x) i (0) = hm_hd (x.u_hd i none) := by
  funext j
  show (if j = i then 0 else hm_ho (x.hd j)) = hm_ho (if j = i then none else x.hd j)
  split <;> rfl
theorem hm_s_hdN {bd : Nat → Nat} {cy : Nat → ClassId} {x : HM} {i : Nat} : (hm_mem bd cy x).set 14 (bd 14, .inl (cy 0, 16, .inl (upd (hm_hd x) i (0)))) = hm_mem bd cy (x.u_hd i none) := by
  rw [hm_f_hdN]; rfl
theorem hm_f_hdS {x : HM} {i t : Nat} : upd (hm_hd x) i (nI (t + 1)) = hm_hd (x.u_hd i (some t)) := by
  funext j
  show (if j = i then nI (t + 1) else hm_ho (x.hd j)) = hm_ho (if j = i then some t else x.hd j)
  split <;> rfl
theorem hm_s_hdS {bd : Nat → Nat} {cy : Nat → ClassId} {x : HM} {i t : Nat} : (hm_mem bd cy x).set 14 (bd 14, .inl (cy 0, 16, .inl (upd (hm_hd x) i (nI (t + 1))))) = hm_mem bd cy (x.u_hd i (some t)) := by
  rw [hm_f_hdS]; rfl
theorem hm_f_seF {x : HM} {t k : Nat} (hk : k < 16) : upd (hm_se x) (t * 16 + k) (0) = hm_se (x.u_se t (va_up (x.se t) k false)) := by
  funext j
  show (if j = t * 16 + k then 0 else if x.se (j / 16) (j % 16) then (1 : Int32) else 0) = if (va_up x.se t (va_up (x.se t) k false)) (j / 16) (j % 16) then 1 else 0
  by_cases e : j = t * 16 + k
  · rw [if_pos e, show j / 16 = t by omega, show j % 16 = k by omega, va_up_self, va_up_self]; rfl
  · rw [if_neg e]
    by_cases e2 : j / 16 = t
    · rw [e2, va_up_self, va_up_ne _ _ (show j % 16 ≠ k by omega)]
    · rw [va_up_ne _ _ e2]
theorem hm_s_seF {bd : Nat → Nat} {cy : Nat → ClassId} {x : HM} {t k : Nat} (hk : k < 16) : (hm_mem bd cy x).set 11 (bd 11, .inl (cy 2, 128, .inl (upd (hm_se x) (t * 16 + k) (0)))) = hm_mem bd cy (x.u_se t (va_up (x.se t) k false)) := by
  rw [hm_f_seF hk]; rfl
theorem hm_f_seT {x : HM} {t k : Nat} (hk : k < 16) : upd (hm_se x) (t * 16 + k) (1) = hm_se (x.u_se t (va_up (x.se t) k true)) := by
  funext j
  show (if j = t * 16 + k then 1 else if x.se (j / 16) (j % 16) then (1 : Int32) else 0) = if (va_up x.se t (va_up (x.se t) k true)) (j / 16) (j % 16) then 1 else 0
  by_cases e : j = t * 16 + k
  · rw [if_pos e, show j / 16 = t by omega, show j % 16 = k by omega, va_up_self, va_up_self]; rfl
  · rw [if_neg e]
    by_cases e2 : j / 16 = t
    · rw [e2, va_up_self, va_up_ne _ _ (show j % 16 ≠ k by omega)]
    · rw [va_up_ne _ _ e2]
theorem hm_s_seT {bd : Nat → Nat} {cy : Nat → ClassId} {x : HM} {t k : Nat} (hk : k < 16) : (hm_mem bd cy x).set 11 (bd 11, .inl (cy 2, 128, .inl (upd (hm_se x) (t * 16 + k) (1)))) = hm_mem bd cy (x.u_se t (va_up (x.se t) k true)) := by
  rw [hm_f_seT hk]; rfl
section HMR
variable {p : Program} {l : Launch} {e : Env} {R : Room} {s : State} {m : MethodId} {args : Array Value} {below : List Frame} {meth : Method} {c : Code} {H H0 : Heap} {locs : List Loc} {cells slots : Nat} {Q : State → Prop}
variable {cc : ByteArray} {pc : Nat} {ls : Array Slot} {rest : List Value} {D : va_G} {cy : Nat → ClassId} {ws : va_W} {Ts : List Cond} {own : String} {A : Nat → Prop} {a : Nat}
theorem hm_gf {fs : List Value} (G : hs_C p s m c cc args Ts own D cy) (hin : ∀ w ∈ u_ws RX4 TX4 21, w ∈ Ts) (hP : va_P D vwCl ws H) (hat : ws[0]? = some (a, .inr (4, fs))) {index : Nat} (k : Nat) (hk : k < 21) (hl : Cond.fieldLink own index RX4 (TX4 k).2.1 (TX4 k).2.2.1 ∈ Ts) (v : Value) (hs : (TX4 k).1 = RX4) (hv : fs[k]? = some v) (hdg : decode cc pc = .ok (.getfield index, 3))
    (kk : W p l e R s m args below meth c H locs cells slots Q (F0 m (pc + 3) ls (v :: rest))) : W p l e R s m args below meth c H locs cells slots Q (F0 m pc ls (.ref a :: rest)) :=
  va_get (D := D) (ci := 4) (v := v) (C := RX4) (T := TX4) (N := 21) G.1 G.2.1 G.2.2.1 hin G.2.2.2.1 G.2.2.2.2.1 hP 0 hat rfl k hk (G.2.2.1 _ hl) (fun _ h9 => by rw [hs] at h9; exact h9) hv hdg kk
theorem hm_pf {fs : List Value} (G : hs_C p s m c cc args Ts own D cy) (hin : ∀ w ∈ u_ws RX4 TX4 21, w ∈ Ts) (hP : va_P D vwCl ws H) (hD : va_D A ws) (hS : va_S A H0 H locs) (hat : ws[0]? = some (a, .inr (4, fs))) {index : Nat} (k : Nat) (hk : k < 21) (hl : Cond.fieldLink own index RX4 (TX4 k).2.1 (TX4 k).2.2.1 ∈ Ts) (v : Value) (hs : (TX4 k).1 = RX4) (hfin : (TX4 k).2.2.2 = false) (fty : FieldType) (hd : parseFieldDescriptor (TX4 k).2.2.1 = some fty) (hn : narrow fty v = v) (hfit : fits fty v = true) (hl2 : k < fs.length) (ws' : va_W) (hx' : ws.set 0 (a, .inr (4, fs.set k v)) = ws') (hdg : decode cc pc = .ok (.putfield index, 3))
    (kk : ∀ (H1 : Heap) (locs1 : List Loc), va_P D vwCl ws' H1 → va_D A ws' → va_S A H0 H1 locs1 → W p l e R s m args below meth c H1 locs1 cells slots Q (F0 m (pc + 3) ls rest)) : W p l e R s m args below meth c H locs cells slots Q (F0 m pc ls (v :: .ref a :: rest)) :=
  va_put (D := D) (ci := 4) (v := v) (ty := fty) (C := RX4) (T := TX4) (N := 21) G.1 G.2.1 G.2.2.1 hin tyX4 tyX4_ok nmX4 G.2.2.2.1 G.2.2.2.2.1 hP hD hS 0 hat rfl k hk (G.2.2.1 _ hl) (fun _ h9 => by rw [hs] at h9; exact h9) hfin hd hn hfit hl2 hdg (fun H1 locs1 hP1 hD1 hS1 => kk H1 locs1 (by rw [← hx']; exact hP1) (by rw [← hx']; exact hD1) hS1)
theorem hm_lL (G : hs_C p s m c cc args Ts own D cy) (hP : va_P D vwCl ws H) (q0 : Nat) (f : Nat → Int64) (n : Nat) (ha : ws[q0]? = some (a, .inl (cy 1, n, .inr (.inl f)))) {i : Int32} (k : Nat) (hc : i.toNatClampNeg = k) (hi : ¬ i < 0 ∧ k < n) (v : Int64) (hv : f k = v) (hdg : decode cc pc = .ok (.laload, 1))
    (kk : W p l e R s m args below meth c H locs cells slots Q (F0 m (pc + 1) ls (.long v :: rest))) : W p l e R s m args below meth c H locs cells slots Q (F0 m pc ls (.int i :: .ref a :: rest)) :=
  va_lald G.1 G.2.1 G.2.2.2.2.1 hP q0 1 ha rfl (hs_in hc hi) hdg (by rw [hc, hv]; exact kk)
theorem hm_sL (G : hs_C p s m c cc args Ts own D cy) (hP : va_P D vwCl ws H) (hD : va_D A ws) (hS : va_S A H0 H locs) (q0 : Nat) (f : Nat → Int64) (n : Nat) (ha : ws[q0]? = some (a, .inl (cy 1, n, .inr (.inl f)))) {i : Int32} (k : Nat) (hc : i.toNatClampNeg = k) (hi : ¬ i < 0 ∧ k < n) {v : Int64} (ws' : va_W) (hw : ws.set q0 (a, .inl (cy 1, n, .inr (.inl (vp_updL f k v)))) = ws') (hdg : decode cc pc = .ok (.lastore, 1))
    (kk : ∀ (H1 : Heap) (locs1 : List Loc), va_P D vwCl ws' H1 → va_D A ws' → va_S A H0 H1 locs1 → W p l e R s m args below meth c H1 locs1 cells slots Q (F0 m (pc + 1) ls rest)) : W p l e R s m args below meth c H locs cells slots Q (F0 m pc ls (.long v :: .int i :: .ref a :: rest)) :=
  va_last G.1 G.2.1 G.2.2.2.2.1 hP hD hS q0 1 ha rfl (hs_in hc hi) hdg (fun H1 locs1 hP1 hD1 hS1 => kk H1 locs1 (by rw [← hw]; rw [hc] at hP1; exact hP1) (by rw [← hw]; rw [hc] at hD1; exact hD1) hS1)
theorem hm_lI (G : hs_C p s m c cc args Ts own D cy) (hP : va_P D vwCl ws H) (q0 : Nat) (f : Nat → Int32) (n : Nat) (ha : ws[q0]? = some (a, .inl (cy 0, n, .inl f))) {i : Int32} (k : Nat) (hc : i.toNatClampNeg = k) (hi : ¬ i < 0 ∧ k < n) (v : Int32) (hv : f k = v) (hdg : decode cc pc = .ok (.iaload, 1))
    (kk : W p l e R s m args below meth c H locs cells slots Q (F0 m (pc + 1) ls (.int v :: rest))) : W p l e R s m args below meth c H locs cells slots Q (F0 m pc ls (.int i :: .ref a :: rest)) :=
  va_iald G.1 G.2.1 G.2.2.2.2.1 hP q0 0 ha rfl (hs_in hc hi) hdg (by rw [hc, hv]; exact kk)
theorem hm_sI (G : hs_C p s m c cc args Ts own D cy) (hP : va_P D vwCl ws H) (hD : va_D A ws) (hS : va_S A H0 H locs) (q0 : Nat) (f : Nat → Int32) (n : Nat) (ha : ws[q0]? = some (a, .inl (cy 0, n, .inl f))) {i : Int32} (k : Nat) (hc : i.toNatClampNeg = k) (hi : ¬ i < 0 ∧ k < n) {v : Int32} (ws' : va_W) (hw : ws.set q0 (a, .inl (cy 0, n, .inl (upd f k v))) = ws') (hdg : decode cc pc = .ok (.iastore, 1))
    (kk : ∀ (H1 : Heap) (locs1 : List Loc), va_P D vwCl ws' H1 → va_D A ws' → va_S A H0 H1 locs1 → W p l e R s m args below meth c H1 locs1 cells slots Q (F0 m (pc + 1) ls rest)) : W p l e R s m args below meth c H locs cells slots Q (F0 m pc ls (.int v :: .int i :: .ref a :: rest)) :=
  va_iast G.1 G.2.1 G.2.2.2.2.1 hP hD hS q0 0 ha rfl (hs_in hc hi) hdg (fun H1 locs1 hP1 hD1 hS1 => kk H1 locs1 (by rw [← hw]; rw [hc] at hP1; exact hP1) (by rw [← hw]; rw [hc] at hD1; exact hD1) hS1)
theorem hm_lZ (G : hs_C p s m c cc args Ts own D cy) (hP : va_P D vwCl ws H) (q0 : Nat) (f : Nat → Int32) (n : Nat) (ha : ws[q0]? = some (a, .inl (cy 2, n, .inl f))) {i : Int32} (k : Nat) (hc : i.toNatClampNeg = k) (hi : ¬ i < 0 ∧ k < n) (v : Int32) (hv : f k = v) (hdg : decode cc pc = .ok (.baload, 1))
    (kk : W p l e R s m args below meth c H locs cells slots Q (F0 m (pc + 1) ls (.int v :: rest))) : W p l e R s m args below meth c H locs cells slots Q (F0 m pc ls (.int i :: .ref a :: rest)) :=
  va_zald G.1 G.2.1 G.2.2.2.2.1 hP q0 2 ha rfl (hs_in hc hi) hdg (by rw [hc, hv]; exact kk)
theorem hm_sZ (G : hs_C p s m c cc args Ts own D cy) (hP : va_P D vwCl ws H) (hD : va_D A ws) (hS : va_S A H0 H locs) (q0 : Nat) (f : Nat → Int32) (n : Nat) (ha : ws[q0]? = some (a, .inl (cy 2, n, .inl f))) {i : Int32} (k : Nat) (hc : i.toNatClampNeg = k) (hi : ¬ i < 0 ∧ k < n) {v : Int32} (hz : vp_nar .boolean v = v) (ws' : va_W) (hw : ws.set q0 (a, .inl (cy 2, n, .inl (upd f k v))) = ws') (hdg : decode cc pc = .ok (.bastore, 1))
    (kk : ∀ (H1 : Heap) (locs1 : List Loc), va_P D vwCl ws' H1 → va_D A ws' → va_S A H0 H1 locs1 → W p l e R s m args below meth c H1 locs1 cells slots Q (F0 m (pc + 1) ls rest)) : W p l e R s m args below meth c H locs cells slots Q (F0 m pc ls (.int v :: .int i :: .ref a :: rest)) :=
  va_zast G.1 G.2.1 G.2.2.2.2.1 hP hD hS q0 2 ha rfl (hs_in hc hi) hdg (fun H1 locs1 hP1 hD1 hS1 => kk H1 locs1 (by rw [← hw]; rw [hz, hc] at hP1; exact hP1) (by rw [← hw]; rw [hz, hc] at hD1; exact hD1) hS1)
end HMR
/-! laws of the reference's codings -/
theorem hm_ho_eq {o : Option Nat} {t : Nat} (ht : t < 8) (hu : ∀ u, o = some u → u < 8) : hm_ho o = nI (t + 1) ↔ o = some t := by
  cases o with
  | none =>
    refine ⟨fun h => ?_, fun h => by cases h⟩
    exact absurd (show nI 0 = nI (t + 1) from h) (fun q => by have := (nI_eq (by decide) (by omega)).mp q; omega)
  | some u =>
    have := hu u rfl
    simp only [hm_ho, Option.some.injEq]
    rw [nI_eq (by omega) (by omega)]
    omega
theorem hs_shl20 (r : Int32) : (Int32.toInt64 r <<< (Int32.toInt64 20 &&& 63)) = Int32.toInt64 r * 1048576 := by
  apply Int64.toBitVec_inj.mp
  rw [Int64.toBitVec_shiftLeft, Int64.toBitVec_mul]
  have e : (Int32.toInt64 20 &&& 63).toBitVec.smod 64 = 20#64 := by decide
  rw [e, BitVec.shiftLeft_eq', BitVec.shiftLeft_eq_mul_twoPow]
  rfl
theorem hs_and3 {k : Nat} (hk : k < 16) : nI k &&& 3 = nI (k % 4) := by
  have h : ∀ k, k < 16 → nI k &&& 3 = nI (k % 4) := by decide
  exact h k hk
theorem hs_gt_of {z : Int32} {b : Nat} (hz : z < 0 ∨ nI (b + 1) ≤ z) (h0 : ¬ z < 0) (hb : b + 1 < 2 ^ 31) : nI b < z := by
  have h := hz.resolve_left h0
  have h1 : nI b < nI (b + 1) := nI_lt (by omega) hb
  rw [Int32.lt_iff_toInt_lt] at h1 ⊢
  rw [Int32.le_iff_toInt_le] at h
  omega
theorem hs_le_in {j b : Nat} (h : j < b + 1) (hb : b + 1 < 2 ^ 31) : ¬ nI b < nI j := nI_nlt (by omega) (by omega)


/-! ===== laws for settle, meet, restart of the reference ===== -/
theorem hm_mem_vs {bd : Nat → Nat} {cy : Nat → ClassId} (z : HM) (g : List (Nat × Int64 × Int32)) : ((((hm_mem bd cy z).set 16 (bd 16, .inl (cy 0, 256, .inl (hm_vk (z.s_vs g))))).set 17 (bd 17, .inl (cy 1, 256, .inr (.inl (hm_va (z.s_vs g)))))).set 18 (bd 18, .inl (cy 0, 256, .inl (hm_vv (z.s_vs g))))).set 0 (bd 0, .inr (4, (hm_objL bd z).set 17 (.int (nI (z.s_vs g).vs.length)))) = hm_mem bd cy (z.s_vs g) := rfl
theorem hm_mem_cm {bd : Nat → Nat} {cy : Nat → ClassId} (z : HM) (g : List Int64) : ((hm_mem bd cy z).set 12 (bd 12, .inl (cy 1, 512, .inr (.inl (hm_cm (z.s_cm g)))))).set 0 (bd 0, .inr (4, (hm_objL bd z).set 12 (.int (nI (z.s_cm g).cm.length)))) = hm_mem bd cy (z.s_cm g) := rfl
theorem hm_addV {bd : Nat → Nat} {cy : Nat → ClassId} {x : HM} (k : Nat) (s : Int64) (v : Int32) :
    ((((hm_mem bd cy x).set 16 (bd 16, .inl (cy 0, 256, .inl (upd (hm_vk x) x.vs.length (nI k))))).set 17 (bd 17, .inl (cy 1, 256, .inr (.inl (vp_updL (hm_va x) x.vs.length s))))).set 18 (bd 18, .inl (cy 0, 256, .inl (upd (hm_vv x) x.vs.length v)))).set 0 (bd 0, .inr (4, (hm_objL bd x).set 17 (.int (nI (x.vs.length + 1))))) = hm_mem bd cy (x.add k s v) := by
  have e1 : upd (hm_vk x) x.vs.length (nI k) = hm_vk (x.add k s v) := by
    funext i
    show (if i = x.vs.length then nI k else nI (x.vs.getD i (0, 0, 0)).1) = nI ((x.vs ++ [(k, s, v)]).getD i (0, 0, 0)).1
    rw [hs_getD_app]; split <;> rfl
  have e2 : vp_updL (hm_va x) x.vs.length s = hm_va (x.add k s v) := by
    funext i
    show (if i = x.vs.length then s else (x.vs.getD i (0, 0, 0)).2.1) = ((x.vs ++ [(k, s, v)]).getD i (0, 0, 0)).2.1
    rw [hs_getD_app]; split <;> rfl
  have e3 : upd (hm_vv x) x.vs.length v = hm_vv (x.add k s v) := by
    funext i
    show (if i = x.vs.length then v else (x.vs.getD i (0, 0, 0)).2.2) = ((x.vs ++ [(k, s, v)]).getD i (0, 0, 0)).2.2
    rw [hs_getD_app]; split <;> rfl
  have e4 : x.vs.length + 1 = (x.add k s v).vs.length := by
    show x.vs.length + 1 = (x.vs ++ [(k, s, v)]).length
    simp
  rw [e1, e2, e3, e4]
  exact hm_mem_vs x (x.vs ++ [(k, s, v)])
theorem hm_logC {bd : Nat → Nat} {cy : Nat → ClassId} {x : HM} (s : Int64) :
    ((hm_mem bd cy x).set 12 (bd 12, .inl (cy 1, 512, .inr (.inl (vp_updL (hm_cm x) x.cm.length s))))).set 0 (bd 0, .inr (4, (hm_objL bd x).set 12 (.int (nI (x.cm.length + 1))))) = hm_mem bd cy (x.s_cm (x.cm ++ [s])) := by
  have e1 : vp_updL (hm_cm x) x.cm.length s = hm_cm (x.s_cm (x.cm ++ [s])) := by
    funext i
    show (if i = x.cm.length then s else x.cm.getD i 0) = (x.cm ++ [s]).getD i 0
    rw [hs_getD_app]
  have e4 : x.cm.length + 1 = (x.s_cm (x.cm ++ [s])).cm.length := by
    show x.cm.length + 1 = (x.cm ++ [s]).length
    simp
  rw [e1, e4]
  exact hm_mem_cm x (x.cm ++ [s])
theorem hm_s_bs {bd : Nat → Nat} {cy : Nat → ClassId} {x : HM} {b : Nat} : (hm_mem bd cy x).set 0 (bd 0, .inr (4, (hm_objL bd x).set 11 (.long (lN b)))) = hm_mem bd cy (x.s_bs b) := rfl
theorem hs_up_id {α : Type} (f : Nat → α) (t : Nat) : va_up f t (f t) = f := by
  funext j
  by_cases e : j = t
  · subst e; rw [va_up_self]
  · rw [va_up_ne _ _ e]
theorem hs_s_ws_id (x : HM) : x.s_ws x.ws = x := rfl
theorem hs_s_lm_id (x : HM) : x.s_lm x.lm = x := rfl
theorem hs_s_lr_id (x : HM) : x.s_lr x.lr = x := rfl
theorem hs_u_ws_id (x : HM) (t : Nat) : x.u_ws t (x.ws t) = x := by unfold HM.u_ws; rw [hs_up_id, hs_s_ws_id]
theorem hs_u_lm_id (x : HM) (t : Nat) : x.u_lm t (x.lm t) = x := by unfold HM.u_lm; rw [hs_up_id, hs_s_lm_id]
theorem hs_u_lr_id (x : HM) (t : Nat) : x.u_lr t (x.lr t) = x := by unfold HM.u_lr; rw [hs_up_id, hs_s_lr_id]
/-- the intents and the keys read of t below n are gone -/
def HM.cs (x : HM) (t n : Nat) : HM := (x.clr t n).s_se (va_up x.se t (fun k => if k < n then false else x.se t k))
theorem hs_q_se (z : HM) (g : Nat → Nat → Bool) : (z.s_se g).se = g := rfl
theorem hs_q_seu (z : HM) (g : Nat → Nat → Bool) (t : Nat) (f : Nat → Bool) : (z.s_se g).u_se t f = z.s_se (va_up g t f) := rfl
theorem hs_q_u (z : HM) (t : Nat) (f : Nat → Bool) : z.u_se t f = z.s_se (va_up z.se t f) := rfl
theorem hs_q_c1 (z : HM) (n : Nat) (o : Option Nat) (t : Nat) (f : Nat → Bool) : (z.u_hd n o).u_se t f = (z.u_se t f).u_hd n o := rfl
theorem hs_q_c2 (z : HM) (g : Nat → Nat → Bool) (n : Nat) (o : Option Nat) : (z.s_se g).u_hd n o = (z.u_hd n o).s_se g := rfl
theorem hs_q_hse (z : HM) (n : Nat) (o : Option Nat) : (z.u_hd n o).se = z.se := rfl
theorem hs_q_hd (z : HM) (g : Nat → Nat → Bool) : (z.s_se g).hd = z.hd := rfl
theorem hs_q_cse (x : HM) (t n : Nat) : (x.clr t n).se = x.se := rfl
theorem hs_q_id (z : HM) : z.s_se z.se = z := rfl
theorem hs_cs_0 (x : HM) (t : Nat) : x.cs t 0 = x := by
  have e : (fun k => if k < 0 then false else x.se t k) = x.se t := by funext k; simp
  unfold HM.cs
  rw [hs_clr_0, e, hs_up_id, hs_q_id]
theorem hs_cs_hd (x : HM) (t n : Nat) : (x.cs t n).hd = (x.clr t n).hd := by unfold HM.cs; rw [hs_q_hd]
theorem hs_cs_se (x : HM) (t n : Nat) : (x.cs t n).u_se t (va_up ((x.cs t n).se t) n false) = (x.clr t n).s_se (va_up x.se t (fun k => if k < n + 1 then false else x.se t k)) := by
  unfold HM.cs
  rw [hs_q_se, hs_q_seu]
  congr 1
  funext j
  by_cases e : j = t
  · subst e
    rw [va_up_self, va_up_self, va_up_self]
    funext k
    by_cases e2 : k = n
    · subst e2; rw [va_up_self]; simp
    · rw [va_up_ne _ _ e2]
      by_cases q : k < n
      · simp [q, show k < n + 1 by omega]
      · simp [q, show ¬ k < n + 1 by omega]
  · rw [va_up_ne _ _ e, va_up_ne _ _ e, va_up_ne _ _ e]
theorem hs_cs_eq (x : HM) {t n : Nat} (h : x.hd n = some t) : ((x.cs t n).u_hd n none).u_se t (va_up (((x.cs t n).u_hd n none).se t) n false) = x.cs t (n + 1) := by
  rw [hs_q_hse, hs_q_c1, hs_cs_se, hs_q_c2, hs_clr_eq x h, HM.cs]
theorem hs_cs_ne (x : HM) {t n : Nat} (h : ¬ x.hd n = some t) : (x.cs t n).u_se t (va_up ((x.cs t n).se t) n false) = x.cs t (n + 1) := by
  rw [hs_cs_se, hs_clr_ne x h, HM.cs]
theorem hm_mem_se {bd : Nat → Nat} {cy : Nat → ClassId} (z : HM) (g : Nat → Nat → Bool) : hm_mem bd cy (z.s_se g) = (hm_mem bd cy z).set 11 (bd 11, .inl (cy 2, 128, .inl (fun j => if g (j / 16) (j % 16) then 1 else 0))) := rfl
theorem hm_cs16 {bd : Nat → Nat} {cy : Nat → ClassId} (x : HM) (t : Nat) : hm_mem bd cy (x.cs t 16) = hm_mem bd cy ((x.clr t 16).mv1 t) := by
  unfold HM.cs HM.mv1
  rw [hs_q_u, hs_q_cse, hm_mem_se, hm_mem_se]
  have e : (fun j => if (va_up x.se t (fun k => if k < 16 then false else x.se t k)) (j / 16) (j % 16) then (1 : Int32) else 0) = fun j => if (va_up x.se t (fun _ => false)) (j / 16) (j % 16) then 1 else 0 := by
    funext j
    by_cases e : j / 16 = t
    · rw [e, va_up_self, va_up_self]; simp [show j % 16 < 16 by omega]
    · rw [va_up_ne _ _ e, va_up_ne _ _ e]
  rw [e]
/-- the reference's way to take the greater -/
theorem hs_mv2_pos (x : HM) {t : Nat} {a : Int64} (h : x.ws t < a) : (x.mv1 t).u_ws t a = x.mv2 t a := by
  unfold HM.mv2
  rw [if_neg (show ¬ a < (x.mv1 t).ws t from fun q => Int64.lt_irrefl (Int64.lt_trans h q))]
theorem hs_mv2_neg (x : HM) {t : Nat} {a : Int64} (h : ¬ x.ws t < a) : x.mv1 t = x.mv2 t a := by
  unfold HM.mv2
  have e : (if a < (x.mv1 t).ws t then (x.mv1 t).ws t else a) = (x.mv1 t).ws t := by
    split
    · rfl
    · rename_i q
      exact Int64.le_antisymm (Int64.not_lt.mp h) (Int64.not_lt.mp q)
  rw [e, hs_u_ws_id]
theorem hs_mv_pos (x : HM) {t : Nat} {a : Int64} (h : (x.mv3 t a).lm t < (x.mv3 t a).rs t) : (x.mv3 t a).u_lm t ((x.mv3 t a).rs t) = x.mv t a := by
  unfold HM.mv
  rw [if_neg (fun q => Int64.lt_irrefl (Int64.lt_trans h q))]
theorem hs_mv_neg (x : HM) {t : Nat} {a : Int64} (h : ¬ (x.mv3 t a).lm t < (x.mv3 t a).rs t) : x.mv3 t a = x.mv t a := by
  unfold HM.mv
  have e : (if (x.mv3 t a).rs t < (x.mv3 t a).lm t then (x.mv3 t a).lm t else (x.mv3 t a).rs t) = (x.mv3 t a).lm t := by
    split
    · rfl
    · rename_i q
      exact Int64.le_antisymm (Int64.not_lt.mp h) (Int64.not_lt.mp q)
  rw [e, hs_u_lm_id]
theorem hs_mk_pos (x : HM) {k : Nat} {s : Int64} (h : x.lr k < s) : x.u_lr k s = x.mk k s := by
  unfold HM.mk
  rw [if_neg (fun q => Int64.lt_irrefl (Int64.lt_trans h q))]
theorem hs_mk_neg (x : HM) {k : Nat} {s : Int64} (h : ¬ x.lr k < s) : x = x.mk k s := by
  unfold HM.mk
  have e : (if s < x.lr k then x.lr k else s) = x.lr k := by
    split
    · rfl
    · rename_i q
      exact Int64.le_antisymm (Int64.not_lt.mp h) (Int64.not_lt.mp q)
  rw [e, hs_u_lr_id]
theorem hs_pu_pos (x : HM) {t : Nat} {s : Int64} (h : ¬ s < x.ws t) : x.u_ws t (s + 1) = x.pu t s := by
  unfold HM.pu
  rw [if_pos (Int64.not_lt.mp h)]
theorem hs_pu_neg (x : HM) {t : Nat} {s : Int64} (h : s < x.ws t) : x = x.pu t s := by
  unfold HM.pu
  rw [if_neg (Int64.not_le.mpr h), hs_u_ws_id]
def HM.stopA (x : HM) (z : Int32) : Int32 := match hs_n 8 z with
  | none => -1
  | some t => x.stc t
def HM.stopM (x : HM) (z : Int32) : HM := match hs_n 8 z with
  | none => x
  | some t => x.stp t
def hs_Ph (x : HM) : Prop := ∀ t, t < 8 → x.ph t = 0 ∨ x.ph t = 1 ∨ x.ph t = 2 ∨ x.ph t = 3
theorem hs_sil_vs (x : HM) (u : Nat) : (x.sil u).vs = x.vs := by unfold HM.sil; split <;> rfl
theorem hs_lk3_vs (x : HM) (k u : Nat) : (x.lk3 k u).vs = x.vs := hs_sil_vs _ _

/-! ===== what holds before every call of a run ===== -/
def hs_pc (ph : Nat → Int32) : Nat := hs_sum (fun t => if ph t = 1 then 1 else 0) 8
def hs_J (x : HM) (n : Nat) : Prop := hs_Ph x ∧ x.cm.length + hs_pc x.ph ≤ x.bs ∧ x.bs + x.cm.length ≤ n ∧ ∀ t, t < 8 → x.bi t ≤ x.bs
def hs_R (x y : HM) : Prop := y.bs = x.bs ∧ y.cm = x.cm ∧ y.bi = x.bi ∧ ∀ j, y.ph j = x.ph j ∨ (x.ph j = 1 ∧ y.ph j = 3)
theorem hs_R.rf (x : HM) : hs_R x x := ⟨rfl, rfl, rfl, fun _ => Or.inl rfl⟩
theorem hs_R.tr {x y z : HM} (a : hs_R x y) (b : hs_R y z) : hs_R x z := ⟨b.1.trans a.1, b.2.1.trans a.2.1, b.2.2.1.trans a.2.2.1, fun j => by
  rcases a.2.2.2 j with h | h
  · rcases b.2.2.2 j with g | g
    · exact Or.inl (g.trans h)
    · exact Or.inr ⟨h ▸ g.1, g.2⟩
  · rcases b.2.2.2 j with g | g
    · exact Or.inr ⟨h.1, g.trans h.2⟩
    · exact absurd (h.2.symm.trans g.1) (by decide)⟩
theorem hs_R.of {x y : HM} (h1 : y.bs = x.bs) (h2 : y.cm = x.cm) (h3 : y.bi = x.bi) (h4 : y.ph = x.ph) : hs_R x y := ⟨h1, h2, h3, fun j => Or.inl (by rw [h4])⟩
theorem hs_sum_mono {f g : Nat → Nat} : ∀ n, (∀ k, k < n → f k ≤ g k) → hs_sum f n ≤ hs_sum g n := by
  intro n
  induction n with
  | zero => intro _; exact Nat.le_refl _
  | succ n ih => intro h; rw [hs_sum, hs_sum]; have := ih (fun k hk => h k (by omega)); have := h n (by omega); omega
theorem hs_R.pc {x y : HM} (h : hs_R x y) : hs_pc y.ph ≤ hs_pc x.ph := hs_sum_mono 8 (fun k _ => by
  rcases h.2.2.2 k with g | g
  · rw [g]; exact Nat.le_refl _
  · rw [g.2, if_neg (by decide)]; exact Nat.zero_le _)
theorem hs_R.j {x y : HM} {n : Nat} (h : hs_R x y) (hj : hs_J x n) : hs_J y n := by
  refine ⟨fun t ht => ?_, ?_, ?_, fun t ht => ?_⟩
  · rcases h.2.2.2 t with g | g
    · rw [g]; exact hj.1 t ht
    · exact Or.inr (Or.inr (Or.inr g.2))
  · rw [h.1, h.2.1]; have := h.pc; have := hj.2.1; omega
  · rw [h.1, h.2.1]; exact hj.2.2.1
  · rw [h.1, h.2.2.1]; exact hj.2.2.2 t ht
theorem hs_J.mono {x : HM} {n m : Nat} (h : hs_J x n) (hnm : n ≤ m) : hs_J x m := ⟨h.1, h.2.1, Nat.le_trans h.2.2.1 hnm, h.2.2.2⟩
theorem hs_R.tk (x : HM) (i : Nat) (s : Int64) : hs_R x (x.tk i s) := hs_R.of rfl rfl rfl rfl
theorem hs_R.ev (x : HM) (i : Nat) : hs_R x (x.ev i) := hs_R.of rfl rfl rfl rfl
theorem hs_R.pu (x : HM) (i : Nat) (s : Int64) : hs_R x (x.pu i s) := hs_R.of rfl rfl rfl rfl
theorem hs_R.clr (x : HM) (t n : Nat) : hs_R x (x.clr t n) := hs_R.of rfl rfl rfl rfl
theorem hs_R.mv (x : HM) (t : Nat) (s : Int64) : hs_R x (x.mv t s) := hs_R.of rfl rfl rfl rfl
theorem hs_R.re (x : HM) (t : Nat) (s : Int64) : hs_R x (x.re t s) := (hs_R.clr x t 16).tr (hs_R.mv _ t s)
theorem hs_R.mk (x : HM) (k : Nat) (s : Int64) : hs_R x (x.mk k s) := hs_R.of rfl rfl rfl rfl
theorem hs_R.u_se (x : HM) (t : Nat) (f : Nat → Bool) : hs_R x (x.u_se t f) := hs_R.of rfl rfl rfl rfl
theorem hs_R.u_hd (x : HM) (k : Nat) (o : Option Nat) : hs_R x (x.u_hd k o) := hs_R.of rfl rfl rfl rfl
theorem hs_R.u_pl (x : HM) (k : Nat) (v : Int32) : hs_R x (x.u_pl k v) := hs_R.of rfl rfl rfl rfl
theorem hs_R.u_hu (x : HM) (k : Nat) (v : Int32) : hs_R x (x.u_hu k v) := hs_R.of rfl rfl rfl rfl
theorem hs_R.add (x : HM) (k : Nat) (s : Int64) (v : Int32) : hs_R x (x.add k s v) := hs_R.of rfl rfl rfl rfl
theorem hs_R.stl (x : HM) (k u : Nat) : hs_R x (x.stl k u) := by
  unfold HM.stl
  split
  · exact (hs_R.add x k (x.ws u) (x.pl k)).tr (hs_R.u_hd _ k none)
  · exact hs_R.u_hd x k none
theorem hs_R.sil (x : HM) (u : Nat) : hs_R x (x.sil u) := by
  unfold HM.sil
  split
  · rename_i c
    refine ⟨rfl, rfl, rfl, fun j => ?_⟩
    by_cases e : j = u
    · subst e; exact Or.inr ⟨c.1, va_up_self _ _ _⟩
    · exact Or.inl (va_up_ne _ _ e)
  · exact hs_R.rf x
theorem hs_R.lk3 (x : HM) (k u : Nat) : hs_R x (x.lk3 k u) := ((hs_R.tk x (x.gt u) (x.ck (k % 4))).tr (hs_R.tk _ (k % 4) ((x.lk1 k u).ck (x.gt u)))).tr (hs_R.sil _ u)
theorem hs_R.lk (x : HM) (k u : Nat) : hs_R x (x.lk k u) := by
  unfold HM.lk
  split
  · exact hs_R.lk3 x k u
  · exact (hs_R.lk3 x k u).tr (hs_R.stl _ k u)
theorem hs_R.look (x : HM) (t k : Nat) : hs_R x (x.look t k) := by
  unfold HM.look
  cases x.hd k with
  | none => exact hs_R.rf x
  | some u => dsimp only; split
              · exact hs_R.rf x
              · exact hs_R.lk x k u
theorem hs_R.lpR (x : HM) (t k : Nat) : hs_R x (x.lpR t k) := by
  unfold HM.lpR
  cases x.lkU t k with
  | none => exact hs_R.look x t k
  | some u => exact (hs_R.look x t k).tr (hs_R.pu _ u _)
theorem hs_R.lpW (x : HM) (t k : Nat) : hs_R x (x.lpW t k) := by
  unfold HM.lpW
  cases x.lkU t k with
  | none => exact hs_R.look x t k
  | some u => exact (hs_R.look x t k).tr (hs_R.pu _ u _)
theorem hs_R.rdM (x : HM) (t k : Nat) : hs_R x (x.rdM t k) := by
  unfold HM.rdM
  split
  · exact hs_R.rf x
  · refine (hs_R.lpR x t k).tr ?_
    unfold HM.rdX
    cases hs_best ((x.lpR t k).rs t) ((x.lpR t k).lm t) ((x.lpR t k).vk k) with
    | none => exact (hs_R.mk _ k _).tr (hs_R.u_se _ t _)
    | some v => exact hs_R.re _ t v.1
theorem hs_R.wr1 (x : HM) (t k : Nat) : hs_R x (x.wr1 t k) := by
  unfold HM.wr1
  cases x.lkU t k with
  | none => exact hs_R.look x t k
  | some u => exact ((hs_R.look x t k).tr (hs_R.re _ u 0)).tr (hs_R.u_hu _ u 1)
theorem hs_R.wrM (x : HM) (t k : Nat) (v : Int32) : hs_R x (x.wrM t k v) := by
  unfold HM.wrM
  split
  · exact hs_R.u_pl x k v
  · split
    · exact hs_R.look x t k
    · split
      · exact hs_R.wr1 x t k
      · exact (hs_R.wr1 x t k).tr ((((hs_R.pu _ t _).tr (hs_R.pu _ t _)).tr (hs_R.u_hd _ k (some t))).tr (hs_R.u_pl _ k v))
theorem hs_R.mrM (x : HM) (t k : Nat) : hs_R x (x.mrM t k) := by
  have h1 : hs_R x (x.mr1 t k) := (hs_R.tk x (k % 4) (x.ck (x.gt t))).tr (hs_R.lpW _ t k)
  have h2 : hs_R x (x.mr2 t k) := by
    unfold HM.mr2
    split
    · exact h1
    · exact h1.tr (hs_R.mk _ k _)
  exact h2.tr (hs_R.tk _ _ _)
theorem hs_R.mrs (t : Nat) : ∀ (n k : Nat) (x : HM), hs_R x (hs_mrs t n k x).1 := by
  intro n
  induction n with
  | zero => intro k x; exact hs_R.rf x
  | succ n ih =>
    intro k x
    rw [hs_mrs_succ]
    split
    · split
      · exact hs_R.mrM x t k
      · exact (hs_R.mrM x t k).tr (ih _ _)
    · exact ih _ _
theorem hs_R.stp (x : HM) (t : Nat) : hs_R x (x.stp t) := by
  unfold HM.stp
  split
  · exact hs_R.u_hu x t 0
  · exact hs_R.rf x
theorem hs_R.opn (x : HM) (t k : Nat) : hs_R x (x.opn t k) := (hs_R.ev x (x.gt t)).tr (hs_R.tk _ _ _)
theorem hs_R.cls (x : HM) (t k : Nat) : hs_R x (x.cls t k) := hs_R.tk _ _ _
theorem hs_R.cl (t : Nat) : ∀ (n k : Nat) (x : HM), hs_R x (hs_cl t n k x) := by
  intro n
  induction n with
  | zero => intro k x; exact hs_R.rf x
  | succ n ih =>
    intro k x
    rw [hs_cl_succ]
    refine hs_R.tr ?_ (ih _ _)
    unfold HM.clk
    split
    · exact (hs_R.tk x _ _).tr (hs_R.stl _ k t)
    · exact hs_R.rf x
/-! the state of the one that asks stays over a look-up -/
theorem hs_sil_ph {x : HM} {u t : Nat} (h : ¬ t = u) : (x.sil u).ph t = x.ph t := by
  unfold HM.sil
  split
  · exact va_up_ne _ _ h
  · rfl
theorem hs_stl_ph (x : HM) (k u : Nat) : (x.stl k u).ph = x.ph := by unfold HM.stl; split <;> rfl
theorem hs_look_ph (x : HM) (t k : Nat) : (x.look t k).ph t = x.ph t := by
  unfold HM.look
  cases x.hd k with
  | none => rfl
  | some u =>
    dsimp only
    split
    · rfl
    · rename_i c
      have h3 : (x.lk3 k u).ph t = x.ph t := hs_sil_ph (fun q => c q.symm)
      unfold HM.lk
      split
      · exact h3
      · rw [hs_stl_ph]; exact h3
theorem hs_pu_ph (x : HM) (u : Nat) (s : Int64) : (x.pu u s).ph = x.ph := rfl
theorem hs_tk_ph (x : HM) (u : Nat) (s : Int64) : (x.tk u s).ph = x.ph := rfl
theorem hs_mk_ph (x : HM) (u : Nat) (s : Int64) : (x.mk u s).ph = x.ph := rfl
theorem hs_lpW_ph (x : HM) (t k : Nat) : (x.lpW t k).ph t = x.ph t := by
  unfold HM.lpW
  cases x.lkU t k with
  | none => exact hs_look_ph x t k
  | some u => dsimp only; rw [hs_pu_ph]; exact hs_look_ph x t k
theorem hs_mr2_ph (x : HM) (t k : Nat) : (x.mr2 t k).ph t = x.ph t := by
  have h : (x.mr1 t k).ph t = x.ph t := by unfold HM.mr1; rw [hs_lpW_ph, hs_tk_ph]
  unfold HM.mr2
  split
  · exact h
  · rw [hs_mk_ph]; exact h
theorem hs_mrM_ph (x : HM) (t k : Nat) : (x.mrM t k).ph t = x.ph t := by unfold HM.mrM; rw [hs_tk_ph]; exact hs_mr2_ph x t k
theorem hs_mrs_ph (t : Nat) : ∀ (n k : Nat) (x : HM), (hs_mrs t n k x).1.ph t = x.ph t := by
  intro n
  induction n with
  | zero => intro k x; rfl
  | succ n ih =>
    intro k x
    rw [hs_mrs_succ]
    split
    · split
      · exact hs_mrM_ph _ _ _
      · rw [ih, hs_mrM_ph]
    · exact ih _ _
theorem hs_sum_up {f g : Nat → Nat} {t d : Nat} (h : g t + d = f t) (ho : ∀ j, j ≠ t → g j = f j) : ∀ n, t < n → hs_sum g n + d = hs_sum f n := by
  have below : ∀ n, n ≤ t → hs_sum g n = hs_sum f n := by
    intro n
    induction n with
    | zero => intro _; rfl
    | succ n ih => intro hn; rw [hs_sum, hs_sum, ih (by omega), ho n (by omega)]
  intro n
  induction n with
  | zero => intro h; omega
  | succ n ih =>
    intro hn
    rw [hs_sum, hs_sum]
    by_cases e : n = t
    · subst e; rw [below n (Nat.le_refl _)]; omega
    · have := ih (by omega); rw [ho n e]; omega
theorem hs_pc_dn {ph : Nat → Int32} {t : Nat} (ht : t < 8) (h : ph t = 1) {v : Int32} (hv : ¬ v = 1) : hs_pc (va_up ph t v) + 1 = hs_pc ph :=
  hs_sum_up (by rw [va_up_self, if_neg hv, if_pos h]) (fun j hj => by rw [va_up_ne _ _ hj]) 8 ht
theorem hs_pc_eq {ph : Nat → Int32} {t : Nat} (ht : t < 8) (h : ¬ ph t = 1) {v : Int32} (hv : ¬ v = 1) : hs_pc (va_up ph t v) + 0 = hs_pc ph :=
  hs_sum_up (by rw [va_up_self, if_neg hv, if_neg h]) (fun j hj => by rw [va_up_ne _ _ hj]) 8 ht
theorem hs_pc_up {ph : Nat → Int32} {t : Nat} (ht : t < 8) (h : ¬ ph t = 1) : hs_pc ph + 1 = hs_pc (va_up ph t 1) :=
  hs_sum_up (by rw [va_up_self, if_neg h, if_pos rfl]) (fun j hj => by rw [va_up_ne _ _ hj]) 8 ht
theorem hs_Ph_up {x : HM} (h : hs_Ph x) (t : Nat) {v : Int32} (hv : v = 0 ∨ v = 1 ∨ v = 2 ∨ v = 3) : hs_Ph (x.u_ph t v) := fun j hj => by
  show va_up x.ph t v j = 0 ∨ _
  by_cases e : j = t
  · subst e
    have : (x.u_ph j v).ph j = v := va_up_self _ _ _
    rw [this, va_up_self]; exact hv
  · have : (x.u_ph t v).ph j = x.ph j := va_up_ne _ _ e
    rw [this, va_up_ne _ _ e]; exact h j hj
def HM.Iv (x : HM) (n : Nat) : Prop := x.In (4503599627370496 + 300 * n) ∧ hs_J x n
/-- the state of a new object -/
def HM.z0 : HM := (fun _ => 0, fun _ => 0, fun _ => 0, fun _ => 0, fun _ => 0, fun _ => 0, fun _ => 0, fun _ => 0, fun _ => 0, fun _ => 0, fun _ _ => false, fun _ => 0, fun _ => none, fun _ => 0, [], [], 0)

/-! ===== every call keeps what holds ===== -/
theorem hs_n_lt {b j : Nat} {z : Int32} (hb : b < 2 ^ 31) (h : hs_n b z = some j) : j < b := by
  rcases hs_rng z hb with q | ⟨i, hi, rfl⟩
  · rw [hs_n_out q] at h; cases h
  · rw [hs_n_in hi hb] at h; cases h; exact hi
theorem HM.Iv.up {x : HM} {n : Nat} (h : x.Iv n) : x.Iv (n + 1) := ⟨h.1.mono (by omega), h.2.mono (by omega)⟩
theorem HM.Iv.mk' {x y : HM} {n : Nat} {C : Int} (h : x.Iv n) (hi : y.In C) (hc : C ≤ 4503599627370496 + 300 * n + 300) (hr : hs_R x y) : y.Iv (n + 1) := ⟨hi.mono (by omega), (hr.j h.2).mono (by omega)⟩
theorem HM.In.u_rd {x : HM} {B : Int} (h : x.In B) (i : Nat) {r : Int32} (hr : 0 ≤ r.toInt) : (x.u_rd i r).In B := ⟨h.1, h.2.1, h.2.2.1, fun j hj => by
  show 0 ≤ (va_up x.rd i r j).toInt
  by_cases e : j = i
  · subst e; rw [va_up_self]; exact hr
  · rw [va_up_ne _ _ e]; exact h.2.2.2.1 j hj, h.2.2.2.2⟩
theorem HM.Iv.tick {x : HM} {n : Nat} (h : x.Iv n) (hn : n < 512) (z r : Int32) : (x.tickM z r).Iv (n + 1) := by
  unfold HM.tickM
  cases hz : hs_n 4 z with
  | none => exact h.up
  | some i =>
    have hi := hs_n_lt (by decide) hz
    dsimp only
    split
    · exact h.up
    · rename_i c
      split
      · exact h.up
      · have hr : 0 ≤ r.toInt := by have h1 := h.1.2.2.2.1 i hi; have h2 := Int32.le_iff_toInt_le.mp (Int32.not_lt.mp c); omega
        exact h.mk' ((h.1.u_rd i hr).ev (by omega) hi) (by omega) ((hs_R.of (y := x.u_rd i r) rfl rfl rfl rfl).tr (hs_R.ev _ i))
theorem hs_beg_gt (v : HM) (t i b : Nat) : (v.beg t i b).gt = va_up v.gt t i := rfl
theorem hs_beg_hd (v : HM) (t i b : Nat) : (v.beg t i b).hd = v.hd := rfl
theorem hs_beg_vs (v : HM) (t i b : Nat) : (v.beg t i b).vs = v.vs := rfl
theorem hs_beg_ck (v : HM) (t i b : Nat) : (v.beg t i b).ck = v.ck := rfl
theorem hs_beg_rd (v : HM) (t i b : Nat) : (v.beg t i b).rd = v.rd := rfl
theorem hs_beg_rs (v : HM) (t i b : Nat) : (v.beg t i b).rs = va_up v.rs t (v.ck i) := rfl
theorem hs_beg_ws (v : HM) (t i b : Nat) : (v.beg t i b).ws = va_up v.ws t (v.ck i) := rfl
theorem hs_beg_ph (v : HM) (t i b : Nat) : (v.beg t i b).ph = va_up v.ph t 1 := rfl
theorem hs_beg_lr (v : HM) (t i b : Nat) : (v.beg t i b).lr = v.lr := rfl
theorem hs_beg_bi (v : HM) (t i b : Nat) : (v.beg t i b).bi = va_up v.bi t b := rfl
theorem hs_beg_cm (v : HM) (t i b : Nat) : (v.beg t i b).cm = v.cm := rfl
theorem hs_vk_of {x y : HM} (h : y.vs = x.vs) : y.vk = x.vk := by
  funext k
  unfold HM.vk
  rw [h]
theorem HM.In.beg {v : HM} {B : Int} (h : v.In B) {t i : Nat} (hi : i < 4) (h1 : 1 ≤ (v.ck i).toInt) (b : Nat) : (v.beg t i b).In B := by
  have hc := h.ck hi
  have e1 : hs_P2 (v.beg t i b).hd (v.beg t i b).vk := by rw [hs_beg_hd, hs_vk_of (hs_beg_vs v t i b)]; exact h.2.1
  refine ⟨fun j hj => ?_, e1, by rw [hs_beg_ck]; exact h.2.2.1, by rw [hs_beg_rd]; exact h.2.2.2.1, by rw [hs_beg_rs]; exact h.2.2.2.2.1.up t hc.1 hc.2, by rw [hs_beg_ws]; exact h.2.2.2.2.2.1.up t hc.1 hc.2, fun j hj hp => ?_, by rw [hs_beg_lr]; exact h.2.2.2.2.2.2.2.1, by rw [hs_beg_vs]; exact h.2.2.2.2.2.2.2.2.1, h.2.2.2.2.2.2.2.2.2⟩
  · rw [hs_beg_gt]
    by_cases e : j = t
    · subst e; rw [va_up_self]; exact hi
    · rw [va_up_ne _ _ e]; exact h.1 j hj
  · rw [hs_beg_ws]
    rw [hs_beg_ph] at hp
    by_cases e : j = t
    · subst e; rw [va_up_self]; exact h1
    · rw [va_up_ne _ _ e] at hp ⊢; exact h.2.2.2.2.2.2.1 j hj hp
theorem hs_s_bs_In {x : HM} {B : Int} (h : x.In B) (b : Nat) : (x.s_bs b).In B := h
theorem hs_q_bsP (x : HM) (b : Nat) : (x.s_bs b).ph = x.ph ∧ (x.s_bs b).cm = x.cm ∧ (x.s_bs b).bi = x.bi ∧ (x.s_bs b).bs = b := ⟨rfl, rfl, rfl, rfl⟩
theorem HM.Iv.begin {x : HM} {n : Nat} (h : x.Iv n) (hn : n < 512) (z : Int32) : (x.beginM z).Iv (n + 1) := by
  unfold HM.beginM
  cases hz : hs_n 4 z with
  | none => exact h.up
  | some i =>
    have hi := hs_n_lt (by decide) hz
    dsimp only
    cases hf : hs_fr x.ph 8 0 with
    | none => exact h.up
    | some t =>
      have hft := hs_fr_lt' hf
      have ht : t < 8 := by omega
      dsimp only
      have hI1 := h.1.ev (by omega) hi
      have hc1 : 1 ≤ ((x.ev i).ck i).toInt := by
        have q := hs_tk_in h.1.2.2.2.2.2.2.2.2.2 (by omega) (h.1.2.2.2.1 i hi) (h.1.ck hi) (h.1.ck hi)
        have e : (x.ev i).ck i = hs_tk (x.rd i) (x.ck i) (x.ck i) := va_up_self _ _ _
        rw [e]; exact q.1
      have hI2 := hs_s_bs_In (hI1.beg (t := t) hi hc1 x.bs) (x.bs + 1)
      have hR := hs_R.ev x i
      have hj := hR.j h.2
      have hp0 : (x.ev i).ph t = 0 := hft.2.2
      have hb : (x.ev i).bs = x.bs := rfl
      unfold HM.bgn
      generalize x.ev i = v at hj hp0 hb hI2
      have hq := hs_q_bsP (v.beg t i x.bs) (x.bs + 1)
      refine ⟨hI2.mono (by omega), fun j hj8 => ?_, ?_, ?_, fun j hj8 => ?_⟩
      · rw [hq.1, hs_beg_ph]
        by_cases e : j = t
        · subst e; rw [va_up_self]; exact Or.inr (Or.inl rfl)
        · rw [va_up_ne _ _ e]; exact hj.1 j hj8
      · rw [hq.1, hq.2.1, hq.2.2.2, hs_beg_ph, hs_beg_cm]
        have h1 := hs_pc_up (ph := v.ph) ht (by rw [hp0]; decide)
        have h2 := hj.2.1
        omega
      · rw [hq.2.1, hq.2.2.2, hs_beg_cm]
        have h2 := hj.2.2.1
        omega
      · rw [hq.2.2.1, hq.2.2.2, hs_beg_bi]
        by_cases e : j = t
        · subst e; rw [va_up_self]; omega
        · rw [va_up_ne _ _ e]; have := hj.2.2.2 j hj8; omega
theorem HM.Iv.read {x : HM} {n : Nat} (h : x.Iv n) (hn : n < 512) (z w : Int32) : (x.readM z w).Iv (n + 1) := by
  unfold HM.readM
  cases hz : hs_n 8 z with
  | none => exact h.up
  | some t =>
    have ht := hs_n_lt (by decide) hz
    dsimp only
    cases hw : hs_n 16 w with
    | none => exact h.up
    | some k =>
      have hk := hs_n_lt (by decide) hw
      dsimp only
      split
      · have h1 := ((h.1.stp t).opn (k := k) (by omega) ht).rdM (by omega) ht hk
        have h2 := h1.tk (by omega) (h1.gt ht) (h1.ck (show k % 4 < 4 from Nat.mod_lt _ (by decide)))
        exact h.mk' h2 (by omega) ((((hs_R.stp x t).tr (hs_R.opn _ t k)).tr (hs_R.rdM _ t k)).tr (hs_R.cls _ t k))
      · exact h.mk' (h.1.stp t) (by omega) (hs_R.stp x t)
theorem HM.Iv.write {x : HM} {n : Nat} (h : x.Iv n) (hn : n < 512) (z w v : Int32) : (x.writeM z w v).Iv (n + 1) := by
  unfold HM.writeM
  cases hz : hs_n 8 z with
  | none => exact h.up
  | some t =>
    have ht := hs_n_lt (by decide) hz
    dsimp only
    cases hw : hs_n 16 w with
    | none => exact h.up
    | some k =>
      have hk := hs_n_lt (by decide) hw
      dsimp only
      split
      · have h1 := ((h.1.stp t).opn (k := k) (by omega) ht).wrM (by omega) ht hk v
        have h2 := h1.tk (by omega) (h1.gt ht) (h1.ck (show k % 4 < 4 from Nat.mod_lt _ (by decide)))
        exact h.mk' h2 (by omega) ((((hs_R.stp x t).tr (hs_R.opn _ t k)).tr (hs_R.wrM _ t k v)).tr (hs_R.cls _ t k))
      · exact h.mk' (h.1.stp t) (by omega) (hs_R.stp x t)
theorem HM.In.u_ph {x : HM} {B : Int} (h : x.In B) (t : Nat) (v : Int32) (hv : v = 0 ∨ ¬ x.ph t = 0) : (x.u_ph t v).In B := by
  refine ⟨h.1, h.2.1, h.2.2.1, h.2.2.2.1, h.2.2.2.2.1, h.2.2.2.2.2.1, fun j hj hp => ?_, h.2.2.2.2.2.2.2⟩
  have hp : ¬ va_up x.ph t v j = 0 := hp
  by_cases e : j = t
  · subst e
    rw [va_up_self] at hp
    exact h.2.2.2.2.2.2.1 j hj (hv.resolve_left hp)
  · rw [va_up_ne _ _ e] at hp
    exact h.2.2.2.2.2.2.1 j hj hp
theorem HM.In.u_rs {x : HM} {B : Int} (h : x.In B) (t : Nat) {s : Int64} (hs : 0 ≤ s.toInt ∧ s.toInt ≤ B) : (x.u_rs t s).In B := ⟨h.1, h.2.1, h.2.2.1, h.2.2.2.1, h.2.2.2.2.1.up t hs.1 hs.2, h.2.2.2.2.2⟩
theorem hs_s_cm_In {x : HM} {B : Int} (h : x.In B) (l : List Int64) : (x.s_cm l).In B := h
theorem hs_q_fin (u : HM) (t : Nat) : (u.fin t).ph = va_up u.ph t 2 ∧ (u.fin t).cm = u.cm ++ [u.ws t] ∧ (u.fin t).bs = u.bs ∧ (u.fin t).bi = u.bi := ⟨rfl, rfl, rfl, rfl⟩
theorem HM.In.fin {u : HM} {B : Int} (h : u.In B) {t : Nat} (ht : t < 8) (hp : u.ph t = 1) : (u.fin t).In B := by
  have h1 := h.u_rs t (h.ws ht)
  have h2 := h1.u_ph t 2 (Or.inr (by show ¬ u.ph t = 0; rw [hp]; decide))
  exact hs_s_cm_In h2 _
theorem hs_J.fin {u : HM} {n t : Nat} (h : hs_J u n) (ht : t < 8) (hp : u.ph t = 1) : hs_J (u.fin t) (n + 1) := by
  have hq := hs_q_fin u t
  refine ⟨fun j hj => ?_, ?_, ?_, fun j hj => ?_⟩
  · rw [hq.1]
    by_cases e : j = t
    · subst e; rw [va_up_self]; exact Or.inr (Or.inr (Or.inl rfl))
    · rw [va_up_ne _ _ e]; exact h.1 j hj
  · rw [hq.1, hq.2.1, hq.2.2.1, List.length_append]
    have h1 := hs_pc_dn (ph := u.ph) ht hp (v := 2) (by decide)
    have h2 := h.2.1
    simp only [List.length_singleton]
    omega
  · rw [hq.2.1, hq.2.2.1, List.length_append]
    have h2 := h.2.2.1
    simp only [List.length_singleton]
    omega
  · rw [hq.2.2.1, hq.2.2.2]; exact h.2.2.2 j hj
theorem HM.Iv.commit {x : HM} {n : Nat} (h : x.Iv n) (hn : n < 512) (z : Int32) : (x.commitM z).Iv (n + 1) := by
  unfold HM.commitM
  cases hz : hs_n 8 z with
  | none => exact h.up
  | some t =>
    have ht := hs_n_lt (by decide) hz
    dsimp only
    split
    · rename_i c
      have hp1 : x.ph t = 1 := hs_code0 (hs_stc0 c).1
      have hI0 := h.1.stp t
      have hI1 := hI0.ev (by omega) (hI0.gt ht)
      have hR1 := (hs_R.stp x t).tr (hs_R.ev (x.stp t) ((x.stp t).gt t))
      have hpy : ((x.stp t).ev ((x.stp t).gt t)).ph t = 1 := by
        rw [show ((x.stp t).ev ((x.stp t).gt t)).ph = (x.stp t).ph from rfl, (hs_stc0 c).2]; exact hp1
      generalize (x.stp t).ev ((x.stp t).gt t) = y at hI1 hR1 hpy
      have hIm := HM.In.mrs ht 16 0 y _ rfl hI1 (by omega)
      have hRm := hR1.tr (hs_R.mrs t 16 0 y)
      have hpm : (hs_mrs t 16 0 y).1.ph t = 1 := by rw [hs_mrs_ph]; exact hpy
      unfold HM.cmtM
      split
      · split
        · exact ⟨(hIm.fin ht hpm).mono (by omega), (hRm.j h.2).fin ht hpm⟩
        · refine h.mk' (hIm.re ht (a := 0) ?_) (by omega) (hRm.tr (hs_R.re _ t 0))
          have e : (0 : Int64).toInt = 0 := by decide
          rw [e]; omega
      · exact ⟨(hI1.fin ht hpy).mono (by omega), (hR1.j h.2).fin ht hpy⟩
    · exact h.mk' (h.1.stp t) (by omega) (hs_R.stp x t)
theorem hs_q_ph (x : HM) (t : Nat) (v : Int32) : (x.u_ph t v).ph = va_up x.ph t v ∧ (x.u_ph t v).cm = x.cm ∧ (x.u_ph t v).bs = x.bs ∧ (x.u_ph t v).bi = x.bi := ⟨rfl, rfl, rfl, rfl⟩
theorem HM.Iv.abort {x : HM} {n : Nat} (h : x.Iv n) (z : Int32) : (x.abortM z).Iv (n + 1) := by
  unfold HM.abortM
  cases hz : hs_n 8 z with
  | none => exact h.up
  | some t =>
    have ht := hs_n_lt (by decide) hz
    dsimp only
    split
    · rename_i c
      have hp1 := hs_code0 c
      refine h.mk' (h.1.u_ph t 3 (Or.inr (by rw [hp1]; decide))) (by omega) ⟨rfl, rfl, rfl, fun j => ?_⟩
      by_cases e : j = t
      · subst e; exact Or.inr ⟨hp1, va_up_self _ _ _⟩
      · exact Or.inl (va_up_ne _ _ e)
    · exact h.up
theorem hs_beat_In {x : HM} {B : Int} (h : x.In B) (t : Nat) : (x.beat t).In B := h
theorem HM.Iv.heart {x : HM} {n : Nat} (h : x.Iv n) (hn : n < 512) (z : Int32) : (x.heartM z).Iv (n + 1) := by
  unfold HM.heartM
  cases hz : hs_n 8 z with
  | none => exact h.up
  | some t =>
    have ht := hs_n_lt (by decide) hz
    dsimp only
    split
    · exact h.mk' (hs_beat_In (h.1.ev (by omega) (h.1.gt ht)) t) (by omega) ((hs_R.ev x (x.gt t)).tr (hs_R.of rfl rfl rfl rfl))
    · exact h.up
theorem hs_cl_ph (t : Nat) : ∀ (n k : Nat) (x : HM), (hs_cl t n k x).ph = x.ph := by
  intro n
  induction n with
  | zero => intro k x; rfl
  | succ n ih =>
    intro k x
    rw [hs_cl_succ, ih]
    unfold HM.clk
    split
    · rw [hs_stl_ph, hs_tk_ph]
    · rfl
theorem HM.Iv.clean {x : HM} {n : Nat} (h : x.Iv n) (hn : n < 512) (z : Int32) : (x.cleanM z).Iv (n + 1) := by
  unfold HM.cleanM
  cases hz : hs_n 8 z with
  | none => exact h.up
  | some t =>
    have ht := hs_n_lt (by decide) hz
    dsimp only
    split
    · exact h.up
    · split
      · exact h.up
      · rename_i c1
        have hI := HM.In.cl ht 16 0 x _ rfl h.1 (by omega)
        have hR := hs_R.cl t 16 0 x
        have hp : ¬ (hs_cl t 16 0 x).ph t = 1 := by rw [hs_cl_ph]; exact c1
        have hj := hR.j h.2
        generalize hs_cl t 16 0 x = y at hI hj hp
        have hq := hs_q_ph y t 0
        refine ⟨(hI.u_ph t 0 (Or.inl rfl)).mono (by omega), hs_Ph_up hj.1 t (Or.inl rfl), ?_, ?_, ?_⟩
        · rw [hq.1, hq.2.1, hq.2.2.1]
          have h1 := hs_pc_eq (ph := y.ph) ht hp (v := 0) (by decide)
          have h2 := hj.2.1
          omega
        · rw [hq.2.1, hq.2.2.1]; have := hj.2.2.1; omega
        · rw [hq.2.2.1, hq.2.2.2]; exact hj.2.2.2
theorem HM.Iv.cm256 {x : HM} {n : Nat} (h : x.Iv n) (hn : n ≤ 512) : x.cm.length ≤ 256 := by
  have h1 := h.2.2.1
  have h2 := h.2.2.2.1
  omega
theorem HM.Iv.cmlt {x : HM} {n : Nat} (h : x.Iv n) (hn : n < 512) : ∀ t, t < 8 → x.ph t = 1 → x.cm.length < 256 := by
  intro t ht hp
  have h1 := h.2.2.1
  have h2 := h.2.2.2.1
  have h3 := hs_pc_dn (ph := x.ph) ht hp (v := 0) (by decide)
  omega
theorem HM.Iv.bi {x : HM} {n : Nat} (h : x.Iv n) (hn : n ≤ 512) : ∀ t, t < 8 → x.bi t < 2 ^ 31 := by
  intro t ht
  have h1 := h.2.2.2.2 t ht
  have h2 := h.2.2.2.1
  omega
theorem hs_z0_Iv : HM.Iv HM.z0 0 := by
  have e0 : (0 : Int64).toInt = 0 := by decide
  have e1 : (0 : Int32).toInt = 0 := by decide
  have z : ∀ n, hs_PL (fun _ => (0 : Int64)) n (4503599627370496 + 300 * (0 : Nat)) := fun n i _ => by
    show 0 ≤ (0 : Int64).toInt ∧ (0 : Int64).toInt ≤ _
    rw [e0]; exact ⟨by decide, by decide⟩
  refine ⟨⟨fun _ _ => (by decide : 0 < 4), fun k _ => ⟨fun u q => (by cases q), Nat.zero_le _, fun q => (by cases q)⟩, z 4, fun i _ => ?_, z 8, z 8, fun t _ hp => absurd rfl hp, z 16, fun v hv => absurd hv List.not_mem_nil, by decide⟩, fun t _ => Or.inl rfl, ?_, ?_, fun t _ => Nat.le_refl _⟩
  · show 0 ≤ (0 : Int32).toInt
    rw [e1]; decide
  · show 0 + hs_pc (fun _ => 0) ≤ 0
    have : hs_pc (fun _ => (0 : Int32)) = 0 := by decide
    rw [this]
    exact Nat.le_refl _
  · exact Nat.le_refl _

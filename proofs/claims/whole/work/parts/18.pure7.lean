/-! ===== what stays over the parts of a call ===== -/
theorem hs_code0 {x : HM} {t : Nat} (h : x.code t = 0) : x.ph t = 1 := by
  unfold HM.code at h
  split at h
  · assumption
  · split at h
    · exact absurd h (by decide)
    · split at h
      · exact absurd h (by decide)
      · exact absurd h (by decide)
theorem hs_stc0 {x : HM} {t : Nat} (h : x.stc t = 0) : x.code t = 0 ∧ x.stp t = x := by
  unfold HM.stc at h
  split at h
  · exact absurd h (by decide)
  · rename_i c; exact ⟨h, if_neg c⟩
theorem hs_sil_cm (x : HM) (u : Nat) : (x.sil u).cm = x.cm := by unfold HM.sil; split <;> rfl
theorem hs_stl_cm (x : HM) (k u : Nat) : (x.stl k u).cm = x.cm := by unfold HM.stl; split <;> rfl
theorem hs_lk_cm (x : HM) (k u : Nat) : (x.lk k u).cm = x.cm := by
  have h : (x.lk3 k u).cm = x.cm := hs_sil_cm _ _
  unfold HM.lk
  split
  · exact h
  · rw [hs_stl_cm]; exact h
theorem hs_look_cm (x : HM) (t k : Nat) : (x.look t k).cm = x.cm := by
  unfold HM.look
  cases x.hd k with
  | none => rfl
  | some u => dsimp only; split
              · rfl
              · exact hs_lk_cm _ _ _
theorem hs_lpW_cm (x : HM) (t k : Nat) : (x.lpW t k).cm = x.cm := by
  unfold HM.lpW
  cases x.lkU t k with
  | none => exact hs_look_cm _ _ _
  | some u => exact hs_look_cm x t k
theorem hs_mr2_cm (x : HM) (t k : Nat) : (x.mr2 t k).cm = x.cm := by
  have h : (x.mr1 t k).cm = x.cm := hs_lpW_cm _ _ _
  unfold HM.mr2
  split <;> exact h
theorem hs_mrM_cm (x : HM) (t k : Nat) : (x.mrM t k).cm = x.cm := hs_mr2_cm x t k
theorem hs_mrs_cm (t : Nat) : ∀ (n k : Nat) (x : HM), (hs_mrs t n k x).1.cm = x.cm := by
  intro n
  induction n with
  | zero => intro k x; rfl
  | succ n ih =>
    intro k x
    rw [hs_mrs_succ]
    split
    · split
      · exact hs_mrM_cm _ _ _
      · rw [ih, hs_mrM_cm]
    · exact ih _ _

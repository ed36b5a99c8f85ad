/-! ===== the newest version: by index, by list ===== -/
theorem hs_bi_succ (f : Nat → Int64) (a u : Int64) (n : Nat) : hs_bi f a u (n + 1) = if hs_fl f a (hs_bi f a u n) < f n ∧ f n ≤ u then some n else hs_bi f a u n := rfl
theorem hs_bi_lt {f : Nat → Int64} {a u : Int64} : ∀ {n j : Nat}, hs_bi f a u n = some j → j < n := by
  intro n
  induction n with
  | zero => intro j h; cases h
  | succ n ih =>
    intro j h
    rw [hs_bi_succ] at h
    split at h
    · cases h; omega
    · have := ih h; omega
theorem hs_bi_congr {f g : Nat → Int64} {a u : Int64} : ∀ {n : Nat}, (∀ i, i < n → f i = g i) → hs_bi f a u n = hs_bi g a u n := by
  intro n
  induction n with
  | zero => intro _; rfl
  | succ n ih =>
    intro h
    have e := ih (fun i hi => h i (by omega))
    rw [hs_bi_succ, hs_bi_succ, e, h n (by omega)]
    have e2 : hs_fl f a (hs_bi g a u n) = hs_fl g a (hs_bi g a u n) := by
      cases hq : hs_bi g a u n with
      | none => rfl
      | some j => exact h j (by have := hs_bi_lt hq; omega)
    rw [e2]
theorem hs_best_append (a u : Int64) (l : List (Int64 × Int32)) (v : Int64 × Int32) : hs_best a u (l ++ [v]) = hs_fb a u (hs_best a u l) v := by
  simp [hs_best, List.foldl_append]
def hs_lf (l : List (Int64 × Int32)) : Nat → Int64 := fun i => (l.getD i (0, 0)).1
theorem hs_best_bi (a u : Int64) : ∀ (n : Nat) (l : List (Int64 × Int32)), l.length = n → hs_best a u l = (hs_bi (hs_lf l) a u n).map (fun j => l.getD j (0, 0)) := by
  intro n
  induction n with
  | zero => intro l h; rw [List.length_eq_zero_iff.mp h]; rfl
  | succ n ih =>
    intro l h
    have hne : l ≠ [] := fun q => by rw [q] at h; cases h
    obtain ⟨l', v, rfl⟩ : ∃ l' v, l = l' ++ [v] := ⟨l.dropLast, l.getLast hne, (List.dropLast_concat_getLast hne).symm⟩
    have hn : l'.length = n := by simpa using h
    have ev : (l' ++ [v]).getD n (0, 0) = v := by rw [← hn]; simp [List.getD]
    have eo : ∀ j, j < n → (l' ++ [v]).getD j (0, 0) = l'.getD j (0, 0) := fun j hj => by
      simp [List.getD, List.getElem?_append_left (show j < l'.length by omega)]
    have eb : hs_bi (hs_lf (l' ++ [v])) a u n = hs_bi (hs_lf l') a u n := hs_bi_congr (fun i hi => by simp only [hs_lf]; rw [eo i hi])
    rw [hs_best_append, ih l' hn]
    rw [hs_bi_succ, eb]
    have ef : hs_lf (l' ++ [v]) n = v.1 := by simp only [hs_lf]; rw [ev]
    rw [ef]
    cases hq : hs_bi (hs_lf l') a u n with
    | none =>
      show hs_fb a u none v = Option.map _ (if a < v.1 ∧ v.1 ≤ u then some n else none)
      unfold hs_fb
      by_cases c : a < v.1 ∧ v.1 ≤ u
      · rw [if_pos c, if_pos c]; simp only [Option.map_some]; rw [ev]
      · rw [if_neg c, if_neg c]; rfl
    | some j =>
      have hj := hs_bi_lt hq
      have e3 : hs_lf (l' ++ [v]) j = (l'.getD j (0, 0)).1 := by simp only [hs_lf]; rw [eo j hj]
      show hs_fb a u (some (l'.getD j (0, 0))) v = Option.map _ (if hs_lf (l' ++ [v]) j < v.1 ∧ v.1 ≤ u then some n else some j)
      rw [e3]
      unfold hs_fb
      by_cases c : (l'.getD j (0, 0)).1 < v.1 ∧ v.1 ≤ u
      · rw [if_pos c, if_pos c]; simp only [Option.map_some]; rw [ev]
      · rw [if_neg c, if_neg c]; simp only [Option.map_some]; rw [eo j hj]
theorem hs_ix_m1 {f : Nat → Int64} {a u : Int64} {n : Nat} (hn : n < 2 ^ 31) : hs_ix (hs_bi f a u n) = -1 ↔ hs_bi f a u n = none := by
  cases hq : hs_bi f a u n with
  | none => simp [hs_ix]
  | some j =>
    have hj := hs_bi_lt hq
    simp only [hs_ix]
    refine ⟨fun h => ?_, fun h => by cases h⟩
    have := nI_pos (n := j) (by omega)
    rw [h] at this
    exact absurd (by decide) this

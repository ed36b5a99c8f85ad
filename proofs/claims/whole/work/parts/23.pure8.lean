/-! ===== the reference's search over all versions, and its counts ===== -/
def hs_fi (g : Nat → Int32) (f : Nat → Int64) (k : Int32) (a u : Int64) : Nat → Option Nat
  | 0 => none
  | n + 1 => if g n = k ∧ a < f n ∧ f n ≤ u ∧ hs_fl f a (hs_fi g f k a u n) < f n then some n else hs_fi g f k a u n
theorem hs_fi_succ (g : Nat → Int32) (f : Nat → Int64) (k : Int32) (a u : Int64) (n : Nat) : hs_fi g f k a u (n + 1) = if g n = k ∧ a < f n ∧ f n ≤ u ∧ hs_fl f a (hs_fi g f k a u n) < f n then some n else hs_fi g f k a u n := rfl
theorem hs_fi_lt {g : Nat → Int32} {f : Nat → Int64} {k : Int32} {a u : Int64} : ∀ {n j : Nat}, hs_fi g f k a u n = some j → j < n ∧ a < f j := by
  intro n
  induction n with
  | zero => intro j h; cases h
  | succ n ih =>
    intro j h
    rw [hs_fi_succ] at h
    split at h
    · rename_i c; cases h; exact ⟨by omega, c.2.1⟩
    · have := ih h; exact ⟨by omega, this.2⟩
theorem hs_fi_congr {g g' : Nat → Int32} {f f' : Nat → Int64} {k : Int32} {a u : Int64} : ∀ {n : Nat}, (∀ i, i < n → g i = g' i ∧ f i = f' i) → hs_fi g f k a u n = hs_fi g' f' k a u n := by
  intro n
  induction n with
  | zero => intro _; rfl
  | succ n ih =>
    intro h
    have e := ih (fun i hi => h i (by omega))
    have e1 := h n (by omega)
    rw [hs_fi_succ, hs_fi_succ, e, e1.1, e1.2]
    have e2 : hs_fl f a (hs_fi g' f' k a u n) = hs_fl f' a (hs_fi g' f' k a u n) := by
      cases hq : hs_fi g' f' k a u n with
      | none => rfl
      | some j => exact (h j (by have := hs_fi_lt hq; omega)).2
    rw [e2]
def hs_fo (a : Int64) (acc : Option (Int64 × Int32)) : Int64 := match acc with
  | none => a
  | some w => w.1
theorem hs_fb_eq (a u : Int64) (acc : Option (Int64 × Int32)) (v : Int64 × Int32) : hs_fb a u acc v = if hs_fo a acc < v.1 ∧ v.1 ≤ u then some v else acc := by cases acc <;> rfl
theorem hs_fo_some (a : Int64) (y : Int64 × Int32) : hs_fo a (some y) = y.1 := rfl
def hs_vkL (l : List (Nat × Int64 × Int32)) (k : Nat) : List (Int64 × Int32) := (l.filter (fun v => v.1 == k)).map (fun v => v.2)
def hs_gL (l : List (Nat × Int64 × Int32)) : Nat → Int32 := fun i => nI (l.getD i (0, 0, 0)).1
def hs_aL (l : List (Nat × Int64 × Int32)) : Nat → Int64 := fun i => (l.getD i (0, 0, 0)).2.1
theorem hs_best_fi (a u : Int64) {k : Nat} (hk : k < 16) : ∀ (n : Nat) (l : List (Nat × Int64 × Int32)), l.length = n → (∀ v ∈ l, v.1 < 16) → hs_best a u (hs_vkL l k) = (hs_fi (hs_gL l) (hs_aL l) (nI k) a u n).map (fun j => (l.getD j (0, 0, 0)).2) := by
  intro n
  induction n with
  | zero => intro l h _; rw [List.length_eq_zero_iff.mp h]; rfl
  | succ n ih =>
    intro l h hl
    have hne : l ≠ [] := fun q => by rw [q] at h; cases h
    obtain ⟨l', v, rfl⟩ : ∃ l' v, l = l' ++ [v] := ⟨l.dropLast, l.getLast hne, (List.dropLast_concat_getLast hne).symm⟩
    have hn : l'.length = n := by simpa using h
    have hl' : ∀ v ∈ l', v.1 < 16 := fun w hw => hl w (List.mem_append_left _ hw)
    have hv16 : v.1 < 16 := hl v (by simp)
    have ev : (l' ++ [v]).getD n (0, 0, 0) = v := by rw [hs_getD_app, if_pos hn.symm]
    have eo : ∀ j, j < n → (l' ++ [v]).getD j (0, 0, 0) = l'.getD j (0, 0, 0) := fun j hj => by rw [hs_getD_app, if_neg (by omega)]
    have eb : hs_fi (hs_gL (l' ++ [v])) (hs_aL (l' ++ [v])) (nI k) a u n = hs_fi (hs_gL l') (hs_aL l') (nI k) a u n := hs_fi_congr (fun i hi => by simp only [hs_gL, hs_aL]; rw [eo i hi]; exact ⟨rfl, rfl⟩)
    have eg : hs_gL (l' ++ [v]) n = nI v.1 := by simp only [hs_gL]; rw [ev]
    have ef : hs_aL (l' ++ [v]) n = v.2.1 := by simp only [hs_aL]; rw [ev]
    have ih' := ih l' hn hl'
    rw [hs_fi_succ, eb, eg, ef]
    have efl : hs_fl (hs_aL (l' ++ [v])) a (hs_fi (hs_gL l') (hs_aL l') (nI k) a u n) = hs_fo a (hs_best a u (hs_vkL l' k)) := by
      rw [ih']
      cases hq : hs_fi (hs_gL l') (hs_aL l') (nI k) a u n with
      | none => rfl
      | some j =>
        show hs_aL (l' ++ [v]) j = (l'.getD j (0, 0, 0)).2.1
        simp only [hs_aL]; rw [eo j (hs_fi_lt hq).1]
    have hge : ∀ w, hs_best a u (hs_vkL l' k) = some w → a < w.1 := fun w hw => (hs_best_mem hw).2.1
    rw [efl]
    have emap : ∀ o : Option Nat, (∀ j, o = some j → j < n) → o.map (fun j => ((l' ++ [v]).getD j (0, 0, 0)).2) = o.map (fun j => (l'.getD j (0, 0, 0)).2) := by
      intro o ho
      cases o with
      | none => rfl
      | some j => simp only [Option.map_some]; rw [eo j (ho j rfl)]
    by_cases e : v.1 = k
    · have e1 : hs_vkL (l' ++ [v]) k = hs_vkL l' k ++ [v.2] := by
        unfold hs_vkL; rw [List.filter_append, List.map_append]; simp [e]
      rw [e1, hs_best_append]
      rw [hs_fb_eq]
      by_cases c : hs_fo a (hs_best a u (hs_vkL l' k)) < v.2.1 ∧ v.2.1 ≤ u
      · have ha : a < v.2.1 := by
          cases hq : hs_best a u (hs_vkL l' k) with
          | none => rw [hq] at c; exact c.1
          | some w => rw [hq] at c; exact Int64.lt_trans (hge w hq) c.1
        rw [if_pos c, if_pos ⟨by rw [e], ha, c.2, c.1⟩]
        simp only [Option.map_some]; rw [ev]
      · rw [if_neg c, if_neg (fun q => c ⟨q.2.2.2, q.2.2.1⟩), emap _ (fun j hj => (hs_fi_lt hj).1)]
        exact ih'
    · have e1 : hs_vkL (l' ++ [v]) k = hs_vkL l' k := by
        unfold hs_vkL; rw [List.filter_append, List.map_append]; simp [e]
      rw [e1, if_neg (fun q => e ((nI_eq (by omega) (by omega)).mp q.1)), emap _ (fun j hj => (hs_fi_lt hj).1)]
      exact ih'
theorem HM.In.k16 {x : HM} {B : Int} (h : x.In B) : ∀ v ∈ x.vs, v.1 < 16 := fun v hv => (h.2.2.2.2.2.2.2.2.1 v hv).1
theorem HM.In.best_fi {x : HM} {B : Int} (h : x.In B) (a u : Int64) {k : Nat} (hk : k < 16) : hs_best a u (x.vk k) = (hs_fi (hm_vk x) (hm_va x) (nI k) a u x.vs.length).map (fun j => (x.vs.getD j (0, 0, 0)).2) := hs_best_fi a u hk _ x.vs rfl h.k16
/-! how many versions there are in all -/
def hs_sum (f : Nat → Nat) : Nat → Nat
  | 0 => 0
  | n + 1 => hs_sum f n + f n
theorem hs_sum_zero : ∀ n, hs_sum (fun _ => 0) n = 0 := by
  intro n
  induction n with
  | zero => rfl
  | succ n ih => rw [hs_sum, ih]
theorem hs_sum_inc {f g : Nat → Nat} {k : Nat} (h : g k = f k + 1) (ho : ∀ j, j ≠ k → g j = f j) : ∀ n, hs_sum g n = hs_sum f n + if k < n then 1 else 0 := by
  intro n
  induction n with
  | zero => rfl
  | succ n ih =>
    rw [hs_sum, hs_sum, ih]
    by_cases e : n = k
    · subst e; rw [h]; simp; omega
    · rw [ho n e]
      by_cases q : k < n
      · simp [q, show k < n + 1 by omega]; omega
      · simp [q, show ¬ k < n + 1 by omega]
theorem hs_len_sum : ∀ (l : List (Nat × Int64 × Int32)), (∀ v ∈ l, v.1 < 16) → l.length = hs_sum (fun k => (hs_vkL l k).length) 16 := by
  intro l
  induction l with
  | nil => intro _; exact (hs_sum_zero 16).symm
  | cons v l ih =>
    intro h
    have ih' := ih (fun w hw => h w (List.mem_cons_of_mem _ hw))
    have hv := h v List.mem_cons_self
    rw [hs_sum_inc (f := fun k => (hs_vkL l k).length) (k := v.1) (by simp [hs_vkL]) (fun j hj => by simp [hs_vkL, List.filter_cons, Ne.symm hj]), ← ih', if_pos hv]
    rfl
theorem hs_sum_le {f : Nat → Nat} : ∀ n, (∀ k, k < n → f k ≤ 16) → hs_sum f n ≤ 16 * n := by
  intro n
  induction n with
  | zero => intro _; exact Nat.le_refl _
  | succ n ih => intro h; rw [hs_sum]; have := ih (fun k hk => h k (by omega)); have := h n (by omega); omega
theorem hs_sum_lt {f : Nat → Nat} {j : Nat} (hj : f j < 16) : ∀ n, j < n → (∀ k, k < n → f k ≤ 16) → hs_sum f n < 16 * n := by
  intro n
  induction n with
  | zero => intro h; omega
  | succ n ih =>
    intro h hk
    rw [hs_sum]
    by_cases e : j = n
    · subst e; have := hs_sum_le j (fun k hk' => hk k (by omega)); omega
    · have := ih (by omega) (fun k hk' => hk k (by omega)); have := hk n (by omega); omega
theorem HM.In.len {x : HM} {B : Int} (h : x.In B) : x.vs.length ≤ 256 := by
  rw [hs_len_sum x.vs h.k16]
  exact hs_sum_le 16 (fun k hk => h.le16 hk)
theorem HM.In.lenlt {x : HM} {B : Int} (h : x.In B) {k : Nat} (hk : k < 16) (hl : (x.vk k).length < 16) : x.vs.length < 256 := by
  rw [hs_len_sum x.vs h.k16]
  exact hs_sum_lt hl 16 hk (fun k hk => h.le16 hk)
/-- how many of the first n versions are of key k -/
def hs_cn (g : Nat → Int32) (k : Int32) : Nat → Nat
  | 0 => 0
  | n + 1 => if g n = k then hs_cn g k n + 1 else hs_cn g k n
theorem hs_cn_succ (g : Nat → Int32) (k : Int32) (n : Nat) : hs_cn g k (n + 1) = if g n = k then hs_cn g k n + 1 else hs_cn g k n := rfl
theorem hs_cn_le (g : Nat → Int32) (k : Int32) : ∀ n, hs_cn g k n ≤ n := by
  intro n
  induction n with
  | zero => exact Nat.le_refl _
  | succ n ih => rw [hs_cn_succ]; split <;> omega
theorem hs_cn_congr {g g' : Nat → Int32} {k : Int32} : ∀ {n : Nat}, (∀ i, i < n → g i = g' i) → hs_cn g k n = hs_cn g' k n := by
  intro n
  induction n with
  | zero => intro _; rfl
  | succ n ih => intro h; rw [hs_cn_succ, hs_cn_succ, ih (fun i hi => h i (by omega)), h n (by omega)]
theorem hs_cn_len {k : Nat} (hk : k < 16) : ∀ (n : Nat) (l : List (Nat × Int64 × Int32)), l.length = n → (∀ v ∈ l, v.1 < 16) → hs_cn (hs_gL l) (nI k) n = (hs_vkL l k).length := by
  intro n
  induction n with
  | zero => intro l h _; rw [List.length_eq_zero_iff.mp h]; rfl
  | succ n ih =>
    intro l h hl
    have hne : l ≠ [] := fun q => by rw [q] at h; cases h
    obtain ⟨l', v, rfl⟩ : ∃ l' v, l = l' ++ [v] := ⟨l.dropLast, l.getLast hne, (List.dropLast_concat_getLast hne).symm⟩
    have hn : l'.length = n := by simpa using h
    have hv16 : v.1 < 16 := hl v (by simp)
    have ev : (l' ++ [v]).getD n (0, 0, 0) = v := by rw [hs_getD_app, if_pos hn.symm]
    have eb : hs_cn (hs_gL (l' ++ [v])) (nI k) n = hs_cn (hs_gL l') (nI k) n := hs_cn_congr (fun i hi => by simp only [hs_gL]; rw [hs_getD_app, if_neg (by omega)])
    have eg : hs_gL (l' ++ [v]) n = nI v.1 := by simp only [hs_gL]; rw [ev]
    rw [hs_cn_succ, eb, eg, ih l' hn (fun w hw => hl w (List.mem_append_left _ hw))]
    unfold hs_vkL
    rw [List.filter_append, List.map_append, List.length_append]
    by_cases e : v.1 = k
    · rw [if_pos (by rw [e])]; simp [e]
    · rw [if_neg (fun q => e ((nI_eq (by omega) (by omega)).mp q))]; simp [e]
theorem HM.In.cnt {x : HM} {B : Int} (h : x.In B) {k : Nat} (hk : k < 16) : hs_cn (hm_vk x) (nI k) x.vs.length = (x.vk k).length := hs_cn_len hk _ x.vs rfl h.k16
/-- versions that have stamps above 0 are found from 0 as from -1 -/
theorem hs_best_0 {u : Int64} {l : List (Int64 × Int32)} (h : ∀ v ∈ l, 1 ≤ v.1.toInt) : hs_best 0 u l = hs_best (-1) u l := by
  have key : ∀ (l : List (Int64 × Int32)) (acc : Option (Int64 × Int32)), (∀ v ∈ l, 1 ≤ v.1.toInt) → l.foldl (hs_fb 0 u) acc = l.foldl (hs_fb (-1) u) acc := by
    intro l
    induction l with
    | nil => intro acc _; rw [List.foldl_nil, List.foldl_nil]
    | cons w l ih =>
      intro acc hl
      have hw := hl w List.mem_cons_self
      have e : hs_fb 0 u acc w = hs_fb (-1) u acc w := by
        cases acc with
        | some y => rw [hs_fb_eq, hs_fb_eq, hs_fo_some, hs_fo_some]
        | none =>
          have h1 : (0 : Int64) < w.1 := by rw [Int64.lt_iff_toInt_lt]; have : (0 : Int64).toInt = 0 := by decide
                                            rw [this]; omega
          have h2 : (-1 : Int64) < w.1 := by rw [Int64.lt_iff_toInt_lt]; have : (-1 : Int64).toInt = -1 := by decide
                                             rw [this]; omega
          rw [hs_fb_eq, hs_fb_eq]
          by_cases q : w.1 ≤ u
          · rw [if_pos (show hs_fo 0 none < w.1 ∧ w.1 ≤ u from ⟨h1, q⟩), if_pos (show hs_fo (-1) none < w.1 ∧ w.1 ≤ u from ⟨h2, q⟩)]
          · rw [if_neg (fun z => q z.2), if_neg (fun z => q z.2)]
      rw [List.foldl_cons, List.foldl_cons, e]
      exact ih _ (fun v hv => hl v (List.mem_cons_of_mem _ hv))
  exact key l none h
theorem HM.In.best0 {x : HM} {B : Int} (h : x.In B) (u : Int64) (k : Nat) : hs_best 0 u (x.vk k) = hs_best (-1) u (x.vk k) := hs_best_0 (fun v hv => (h.vk hv).1)

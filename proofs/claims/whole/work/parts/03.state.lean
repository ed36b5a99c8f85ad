/-! ===== the state as a mathematical value: nodes (rd, ck), slots (ph gt bt bi rs ws lm hu se), keys (lr hd pl), versions, commits, begins ===== -/
def HM : Type := (Nat → Int32) × (Nat → Int64) × (Nat → Int32) × (Nat → Nat) × (Nat → Int32) × (Nat → Nat) × (Nat → Int64) × (Nat → Int64) × (Nat → Int64) × (Nat → Int32) × (Nat → Nat → Bool) × (Nat → Int64) × (Nat → Option Nat) × (Nat → Int32) × (List (Nat × Int64 × Int32)) × (List Int64) × (Nat)
def HM.rd (m : HM) : Nat → Int32 := m.1
def HM.ck (m : HM) : Nat → Int64 := m.2.1
def HM.ph (m : HM) : Nat → Int32 := m.2.2.1
def HM.gt (m : HM) : Nat → Nat := m.2.2.2.1
def HM.bt (m : HM) : Nat → Int32 := m.2.2.2.2.1
def HM.bi (m : HM) : Nat → Nat := m.2.2.2.2.2.1
def HM.rs (m : HM) : Nat → Int64 := m.2.2.2.2.2.2.1
def HM.ws (m : HM) : Nat → Int64 := m.2.2.2.2.2.2.2.1
def HM.lm (m : HM) : Nat → Int64 := m.2.2.2.2.2.2.2.2.1
def HM.hu (m : HM) : Nat → Int32 := m.2.2.2.2.2.2.2.2.2.1
def HM.se (m : HM) : Nat → Nat → Bool := m.2.2.2.2.2.2.2.2.2.2.1
def HM.lr (m : HM) : Nat → Int64 := m.2.2.2.2.2.2.2.2.2.2.2.1
def HM.hd (m : HM) : Nat → Option Nat := m.2.2.2.2.2.2.2.2.2.2.2.2.1
def HM.pl (m : HM) : Nat → Int32 := m.2.2.2.2.2.2.2.2.2.2.2.2.2.1
def HM.vs (m : HM) : List (Nat × Int64 × Int32) := m.2.2.2.2.2.2.2.2.2.2.2.2.2.2.1
def HM.cm (m : HM) : List Int64 := m.2.2.2.2.2.2.2.2.2.2.2.2.2.2.2.1
def HM.bs (m : HM) : Nat := m.2.2.2.2.2.2.2.2.2.2.2.2.2.2.2.2
def HM.s_rd (m : HM) (v : Nat → Int32) : HM := (v, m.2)
def HM.s_ck (m : HM) (v : Nat → Int64) : HM := (m.1, v, m.2.2)
def HM.s_ph (m : HM) (v : Nat → Int32) : HM := (m.1, m.2.1, v, m.2.2.2)
def HM.s_gt (m : HM) (v : Nat → Nat) : HM := (m.1, m.2.1, m.2.2.1, v, m.2.2.2.2)
def HM.s_bt (m : HM) (v : Nat → Int32) : HM := (m.1, m.2.1, m.2.2.1, m.2.2.2.1, v, m.2.2.2.2.2)
def HM.s_bi (m : HM) (v : Nat → Nat) : HM := (m.1, m.2.1, m.2.2.1, m.2.2.2.1, m.2.2.2.2.1, v, m.2.2.2.2.2.2)
def HM.s_rs (m : HM) (v : Nat → Int64) : HM := (m.1, m.2.1, m.2.2.1, m.2.2.2.1, m.2.2.2.2.1, m.2.2.2.2.2.1, v, m.2.2.2.2.2.2.2)
def HM.s_ws (m : HM) (v : Nat → Int64) : HM := (m.1, m.2.1, m.2.2.1, m.2.2.2.1, m.2.2.2.2.1, m.2.2.2.2.2.1, m.2.2.2.2.2.2.1, v, m.2.2.2.2.2.2.2.2)
def HM.s_lm (m : HM) (v : Nat → Int64) : HM := (m.1, m.2.1, m.2.2.1, m.2.2.2.1, m.2.2.2.2.1, m.2.2.2.2.2.1, m.2.2.2.2.2.2.1, m.2.2.2.2.2.2.2.1, v, m.2.2.2.2.2.2.2.2.2)
def HM.s_hu (m : HM) (v : Nat → Int32) : HM := (m.1, m.2.1, m.2.2.1, m.2.2.2.1, m.2.2.2.2.1, m.2.2.2.2.2.1, m.2.2.2.2.2.2.1, m.2.2.2.2.2.2.2.1, m.2.2.2.2.2.2.2.2.1, v, m.2.2.2.2.2.2.2.2.2.2)
def HM.s_se (m : HM) (v : Nat → Nat → Bool) : HM := (m.1, m.2.1, m.2.2.1, m.2.2.2.1, m.2.2.2.2.1, m.2.2.2.2.2.1, m.2.2.2.2.2.2.1, m.2.2.2.2.2.2.2.1, m.2.2.2.2.2.2.2.2.1, m.2.2.2.2.2.2.2.2.2.1, v, m.2.2.2.2.2.2.2.2.2.2.2)
def HM.s_lr (m : HM) (v : Nat → Int64) : HM := (m.1, m.2.1, m.2.2.1, m.2.2.2.1, m.2.2.2.2.1, m.2.2.2.2.2.1, m.2.2.2.2.2.2.1, m.2.2.2.2.2.2.2.1, m.2.2.2.2.2.2.2.2.1, m.2.2.2.2.2.2.2.2.2.1, m.2.2.2.2.2.2.2.2.2.2.1, v, m.2.2.2.2.2.2.2.2.2.2.2.2)
def HM.s_hd (m : HM) (v : Nat → Option Nat) : HM := (m.1, m.2.1, m.2.2.1, m.2.2.2.1, m.2.2.2.2.1, m.2.2.2.2.2.1, m.2.2.2.2.2.2.1, m.2.2.2.2.2.2.2.1, m.2.2.2.2.2.2.2.2.1, m.2.2.2.2.2.2.2.2.2.1, m.2.2.2.2.2.2.2.2.2.2.1, m.2.2.2.2.2.2.2.2.2.2.2.1, v, m.2.2.2.2.2.2.2.2.2.2.2.2.2)
def HM.s_pl (m : HM) (v : Nat → Int32) : HM := (m.1, m.2.1, m.2.2.1, m.2.2.2.1, m.2.2.2.2.1, m.2.2.2.2.2.1, m.2.2.2.2.2.2.1, m.2.2.2.2.2.2.2.1, m.2.2.2.2.2.2.2.2.1, m.2.2.2.2.2.2.2.2.2.1, m.2.2.2.2.2.2.2.2.2.2.1, m.2.2.2.2.2.2.2.2.2.2.2.1, m.2.2.2.2.2.2.2.2.2.2.2.2.1, v, m.2.2.2.2.2.2.2.2.2.2.2.2.2.2)
def HM.s_vs (m : HM) (v : List (Nat × Int64 × Int32)) : HM := (m.1, m.2.1, m.2.2.1, m.2.2.2.1, m.2.2.2.2.1, m.2.2.2.2.2.1, m.2.2.2.2.2.2.1, m.2.2.2.2.2.2.2.1, m.2.2.2.2.2.2.2.2.1, m.2.2.2.2.2.2.2.2.2.1, m.2.2.2.2.2.2.2.2.2.2.1, m.2.2.2.2.2.2.2.2.2.2.2.1, m.2.2.2.2.2.2.2.2.2.2.2.2.1, m.2.2.2.2.2.2.2.2.2.2.2.2.2.1, v, m.2.2.2.2.2.2.2.2.2.2.2.2.2.2.2)
def HM.s_cm (m : HM) (v : List Int64) : HM := (m.1, m.2.1, m.2.2.1, m.2.2.2.1, m.2.2.2.2.1, m.2.2.2.2.2.1, m.2.2.2.2.2.2.1, m.2.2.2.2.2.2.2.1, m.2.2.2.2.2.2.2.2.1, m.2.2.2.2.2.2.2.2.2.1, m.2.2.2.2.2.2.2.2.2.2.1, m.2.2.2.2.2.2.2.2.2.2.2.1, m.2.2.2.2.2.2.2.2.2.2.2.2.1, m.2.2.2.2.2.2.2.2.2.2.2.2.2.1, m.2.2.2.2.2.2.2.2.2.2.2.2.2.2.1, v, m.2.2.2.2.2.2.2.2.2.2.2.2.2.2.2.2)
def HM.s_bs (m : HM) (v : Nat) : HM := (m.1, m.2.1, m.2.2.1, m.2.2.2.1, m.2.2.2.2.1, m.2.2.2.2.2.1, m.2.2.2.2.2.2.1, m.2.2.2.2.2.2.2.1, m.2.2.2.2.2.2.2.2.1, m.2.2.2.2.2.2.2.2.2.1, m.2.2.2.2.2.2.2.2.2.2.1, m.2.2.2.2.2.2.2.2.2.2.2.1, m.2.2.2.2.2.2.2.2.2.2.2.2.1, m.2.2.2.2.2.2.2.2.2.2.2.2.2.1, m.2.2.2.2.2.2.2.2.2.2.2.2.2.2.1, m.2.2.2.2.2.2.2.2.2.2.2.2.2.2.2.1, v)
def HM.u_rd (m : HM) (i : Nat) (v : Int32) : HM := m.s_rd (va_up m.rd i v)
def HM.u_ck (m : HM) (i : Nat) (v : Int64) : HM := m.s_ck (va_up m.ck i v)
def HM.u_ph (m : HM) (i : Nat) (v : Int32) : HM := m.s_ph (va_up m.ph i v)
def HM.u_gt (m : HM) (i : Nat) (v : Nat) : HM := m.s_gt (va_up m.gt i v)
def HM.u_bt (m : HM) (i : Nat) (v : Int32) : HM := m.s_bt (va_up m.bt i v)
def HM.u_bi (m : HM) (i : Nat) (v : Nat) : HM := m.s_bi (va_up m.bi i v)
def HM.u_rs (m : HM) (i : Nat) (v : Int64) : HM := m.s_rs (va_up m.rs i v)
def HM.u_ws (m : HM) (i : Nat) (v : Int64) : HM := m.s_ws (va_up m.ws i v)
def HM.u_lm (m : HM) (i : Nat) (v : Int64) : HM := m.s_lm (va_up m.lm i v)
def HM.u_hu (m : HM) (i : Nat) (v : Int32) : HM := m.s_hu (va_up m.hu i v)
def HM.u_se (m : HM) (i : Nat) (v : Nat → Bool) : HM := m.s_se (va_up m.se i v)
def HM.u_lr (m : HM) (i : Nat) (v : Int64) : HM := m.s_lr (va_up m.lr i v)
def HM.u_hd (m : HM) (i : Nat) (v : Option Nat) : HM := m.s_hd (va_up m.hd i v)
def HM.u_pl (m : HM) (i : Nat) (v : Int32) : HM := m.s_pl (va_up m.pl i v)
/-- the versions of key k, in their order -/
def HM.vk (m : HM) (k : Nat) : List (Int64 × Int32) := (m.vs.filter (fun v => v.1 == k)).map (fun v => v.2)
/-- a set of keys as the bits of an int -/
def hs_mn (f : Nat → Bool) : Nat → Nat
  | 0 => 0
  | n + 1 => (if f n then 2 ^ n else 0) + hs_mn f n
def hs_mask (f : Nat → Bool) : Int32 := nI (hs_mn f 16)
def hs_bit (k : Nat) : Int32 := (1 : Int32) <<< (nI k &&& 31)
/-! the class: 65 cells; 0 the store, 1 .. 3 its arrays of nodes, keys, slots, 4 the commit stamps, then 4 nodes, 16 keys, 16 arrays of stamps, 16 of values, 8 slots -/
abbrev hs_tys (cy : Nat → ClassId) : List (ClassId × FieldType) := [(cy 0, .int), (cy 1, .long), (cy 2, .boolean), (cy 3, .object "HlcStore$Node"), (cy 4, .object "HlcStore$Key"), (cy 5, .object "HlcStore$Transaction")]
def hc_storeL (ad : Nat → Nat) (m : HM) : List Value := [.ref (ad 1), .ref (ad 2), .ref (ad 3), .ref (ad 4), .int (nI m.cm.length), .int (nI m.bs)]
def hc_nodeL (m : HM) (i : Nat) : List Value := [.int (m.rd i), .long (m.ck i)]
def hc_keyL (ad : Nat → Nat) (m : HM) (k : Nat) : List Value := [.int (hs_bit k), .ref (ad (5 + k % 4)), .ref (ad (25 + k)), .ref (ad (41 + k)), .int (nI (m.vk k).length), .long (m.lr k), va_rf ((m.hd k).map (fun t => ad (57 + t))), .int (m.pl k)]
def hc_txL (ad : Nat → Nat) (m : HM) (t : Nat) : List Value := [.int (m.ph t), .ref (ad (5 + m.gt t)), .int (m.bt t), .int (nI (m.bi t)), .long (m.rs t), .long (m.ws t), .long (m.lm t), .int (hs_mask (m.se t)), .int (m.hu t)]
def hc_stA (m : HM) (k : Nat) : Nat → Int64 := fun i => ((m.vk k).getD i (0, 0)).1
def hc_vaA (m : HM) (k : Nat) : Nat → Int32 := fun i => ((m.vk k).getD i (0, 0)).2
def hc_cmA (m : HM) : Nat → Int64 := fun i => m.cm.getD i 0
def hc_top (ad : Nat → Nat) (cy : Nat → ClassId) (m : HM) (j : Nat) : va_E :=
  if j = 0 then .inr (3, hc_storeL ad m)
  else if j = 1 then .inl (cy 3, 4, .inr (.inr (.inr (.inr (fun i => some (ad (5 + i)))))))
  else if j = 2 then .inl (cy 4, 16, .inr (.inr (.inr (.inr (fun i => some (ad (9 + i)))))))
  else if j = 3 then .inl (cy 5, 8, .inr (.inr (.inr (.inr (fun i => some (ad (57 + i)))))))
  else .inl (cy 1, 256, .inr (.inl (hc_cmA m)))
def hc_cell (ad : Nat → Nat) (cy : Nat → ClassId) (m : HM) (j : Nat) : va_E :=
  if j < 5 then hc_top ad cy m j
  else if j < 9 then .inr (1, hc_nodeL m (j - 5))
  else if j < 25 then .inr (0, hc_keyL ad m (j - 9))
  else if j < 41 then .inl (cy 1, 16, .inr (.inl (hc_stA m (j - 25))))
  else if j < 57 then .inl (cy 0, 16, .inl (hc_vaA m (j - 41)))
  else .inr (2, hc_txL ad m (j - 57))
def hc_mem (ad : Nat → Nat) (cy : Nat → ClassId) (m : HM) : va_W := (List.range 65).map (fun j => (ad j, hc_cell ad cy m j))
def hc_ok (ad : Nat → Nat) : Prop := ∀ i, i < 65 → ∀ j, j < 65 → ad i = ad j → i = j
def hc_A (ad : Nat → Nat) : Nat → Prop := fun q => ∃ j, j < 65 ∧ q = ad j
theorem hs_rm {f : Nat → Nat × va_E} {n j : Nat} (h : j < n) : ((List.range n).map f)[j]? = some (f j) := by simp [h]
theorem hs_rset {f g : Nat → Nat × va_E} {n j0 : Nat} (h : ∀ j, j < n → j ≠ j0 → g j = f j) : ((List.range n).map f).set j0 (g j0) = (List.range n).map g := by
  apply List.ext_getElem?
  intro j
  by_cases hj : j < n
  · by_cases e : j = j0
    · subst e
      simp [List.getElem?_set, hj]
    · rw [List.getElem?_set_ne (Ne.symm e), hs_rm hj, hs_rm hj, h j hj e]
  · simp [List.getElem?_set, hj]
theorem hc_D {ad : Nat → Nat} (ho : hc_ok ad) (cy : Nat → ClassId) (m : HM) : va_D (hc_A ad) (hc_mem ad cy m) := by
  have key : ∀ (k : Nat) (q : Nat × va_E), (hc_mem ad cy m)[k]? = some q → k < 65 ∧ q.1 = ad k := by
    intro k q h
    by_cases hk : k < 65
    · rw [hc_mem, hs_rm hk] at h
      cases h
      exact ⟨hk, rfl⟩
    · simp [hc_mem, hk] at h
  refine ⟨fun i j p q hp hq e => ?_, fun k q h => ?_⟩
  · obtain ⟨h1, h2⟩ := key i p hp
    obtain ⟨h3, h4⟩ := key j q hq
    exact ho i h1 j h3 (by rw [← h2, ← h4]; exact e)
  · obtain ⟨h1, h2⟩ := key k q h
    exact ⟨k, h1, h2⟩
theorem hc_at_top {ad : Nat → Nat} {cy : Nat → ClassId} {m : HM} {j : Nat} (h : j < 5) : (hc_mem ad cy m)[j]? = some (ad j, hc_top ad cy m j) := by
  rw [hc_mem, hs_rm (by omega)]; simp [hc_cell, h]
theorem hc_at_node {ad : Nat → Nat} {cy : Nat → ClassId} {m : HM} {i : Nat} (h : i < 4) : (hc_mem ad cy m)[5 + i]? = some (ad (5 + i), .inr (1, hc_nodeL m i)) := by
  rw [hc_mem, hs_rm (by omega)]; simp [hc_cell, show ¬ 5 + i < 5 by omega, show 5 + i < 9 by omega]
theorem hc_at_key {ad : Nat → Nat} {cy : Nat → ClassId} {m : HM} {k : Nat} (h : k < 16) : (hc_mem ad cy m)[9 + k]? = some (ad (9 + k), .inr (0, hc_keyL ad m k)) := by
  rw [hc_mem, hs_rm (by omega)]; simp [hc_cell, show ¬ 9 + k < 5 by omega, show ¬ 9 + k < 9 by omega, show 9 + k < 25 by omega]
theorem hc_at_st {ad : Nat → Nat} {cy : Nat → ClassId} {m : HM} {k : Nat} (h : k < 16) : (hc_mem ad cy m)[25 + k]? = some (ad (25 + k), .inl (cy 1, 16, .inr (.inl (hc_stA m k)))) := by
  rw [hc_mem, hs_rm (by omega)]; simp [hc_cell, show ¬ 25 + k < 5 by omega, show ¬ 25 + k < 9 by omega, show ¬ 25 + k < 25 by omega, show 25 + k < 41 by omega]
theorem hc_at_va {ad : Nat → Nat} {cy : Nat → ClassId} {m : HM} {k : Nat} (h : k < 16) : (hc_mem ad cy m)[41 + k]? = some (ad (41 + k), .inl (cy 0, 16, .inl (hc_vaA m k))) := by
  rw [hc_mem, hs_rm (by omega)]; simp [hc_cell, show ¬ 41 + k < 5 by omega, show ¬ 41 + k < 9 by omega, show ¬ 41 + k < 25 by omega, show ¬ 41 + k < 41 by omega, show 41 + k < 57 by omega]
theorem hc_at_tx {ad : Nat → Nat} {cy : Nat → ClassId} {m : HM} {t : Nat} (h : t < 8) : (hc_mem ad cy m)[57 + t]? = some (ad (57 + t), .inr (2, hc_txL ad m t)) := by
  rw [hc_mem, hs_rm (by omega)]; simp [hc_cell, show ¬ 57 + t < 5 by omega, show ¬ 57 + t < 9 by omega, show ¬ 57 + t < 25 by omega, show ¬ 57 + t < 41 by omega, show ¬ 57 + t < 57 by omega]
/-- a change of one cell of the picture -/
theorem hc_set {ad : Nat → Nat} {cy : Nat → ClassId} {m m' : HM} (j0 : Nat) {e : va_E} (he : hc_cell ad cy m' j0 = e)
    (h1 : ∀ j, j < 5 → j ≠ j0 → hc_top ad cy m' j = hc_top ad cy m j) (h2 : ∀ i, 5 + i ≠ j0 → hc_nodeL m' i = hc_nodeL m i) (h3 : ∀ k, 9 + k ≠ j0 → hc_keyL ad m' k = hc_keyL ad m k)
    (h4 : ∀ k, 25 + k ≠ j0 → hc_stA m' k = hc_stA m k) (h5 : ∀ k, 41 + k ≠ j0 → hc_vaA m' k = hc_vaA m k) (h6 : ∀ t, 57 + t ≠ j0 → hc_txL ad m' t = hc_txL ad m t) :
    (hc_mem ad cy m).set j0 (ad j0, e) = hc_mem ad cy m' := by
  subst he
  refine hs_rset (f := fun j => (ad j, hc_cell ad cy m j)) (g := fun j => (ad j, hc_cell ad cy m' j)) (fun j hj hne => ?_)
  show (ad j, hc_cell ad cy m' j) = (ad j, hc_cell ad cy m j)
  congr 1
  unfold hc_cell
  by_cases a1 : j < 5
  · simp only [a1, if_true]; exact h1 j a1 hne
  · by_cases a2 : j < 9
    · simp only [a1, a2, if_true, if_false]; rw [h2 (j - 5) (by omega)]
    · by_cases a3 : j < 25
      · simp only [a1, a2, a3, if_true, if_false]; rw [h3 (j - 9) (by omega)]
      · by_cases a4 : j < 41
        · simp only [a1, a2, a3, a4, if_true, if_false]; rw [h4 (j - 25) (by omega)]
        · by_cases a5 : j < 57
          · simp only [a1, a2, a3, a4, a5, if_true, if_false]; rw [h5 (j - 41) (by omega)]
          · simp only [a1, a2, a3, a4, a5, if_false]; rw [h6 (j - 57) (by omega)]
theorem hc_c_node {ad : Nat → Nat} {cy : Nat → ClassId} {m : HM} {i : Nat} (h : i < 4) : hc_cell ad cy m (5 + i) = .inr (1, hc_nodeL m i) := by
  simp [hc_cell, show ¬ 5 + i < 5 by omega, show 5 + i < 9 by omega]
theorem hc_c_key {ad : Nat → Nat} {cy : Nat → ClassId} {m : HM} {k : Nat} (h : k < 16) : hc_cell ad cy m (9 + k) = .inr (0, hc_keyL ad m k) := by
  simp [hc_cell, show ¬ 9 + k < 5 by omega, show ¬ 9 + k < 9 by omega, show 9 + k < 25 by omega]
theorem hc_c_tx {ad : Nat → Nat} {cy : Nat → ClassId} {m : HM} {t : Nat} : hc_cell ad cy m (57 + t) = .inr (2, hc_txL ad m t) := by
  simp [hc_cell, show ¬ 57 + t < 5 by omega, show ¬ 57 + t < 9 by omega, show ¬ 57 + t < 25 by omega, show ¬ 57 + t < 41 by omega, show ¬ 57 + t < 57 by omega]

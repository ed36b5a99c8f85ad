/-! ===== versions added, commits logged, intents cleared ===== -/
theorem hs_rset1 {ad : Nat → Nat} {f : Nat → va_E} {n j0 : Nat} {e : va_E} : ((List.range n).map (fun j => (ad j, f j))).set j0 (ad j0, e) = (List.range n).map (fun j => (ad j, va_up f j0 e j)) := by
  have h := hs_rset (f := fun j => (ad j, f j)) (g := fun j => (ad j, va_up f j0 e j)) (n := n) (j0 := j0) (fun j _ hne => by rw [va_up_ne _ _ hne])
  rw [va_up_self] at h
  exact h
theorem hs_vk_add (x : HM) (k : Nat) (s : Int64) (v : Int32) : (x.add k s v).vk k = x.vk k ++ [(s, v)] := by
  show ((x.vs ++ [(k, s, v)]).filter (fun v => v.1 == k)).map (fun v => v.2) = _
  rw [List.filter_append, List.map_append]
  simp [HM.vk]
theorem hs_vk_add_ne (x : HM) {k j : Nat} (h : j ≠ k) (s : Int64) (v : Int32) : (x.add k s v).vk j = x.vk j := by
  show ((x.vs ++ [(k, s, v)]).filter (fun v => v.1 == j)).map (fun v => v.2) = _
  rw [List.filter_append, List.map_append]
  have : (k == j) = false := by simp [Ne.symm h]
  simp [HM.vk, this]
theorem hs_getD_app {α : Type} (l : List α) (v d : α) (i : Nat) : (l ++ [v]).getD i d = if i = l.length then v else l.getD i d := by
  by_cases h : i = l.length
  · subst h; simp [List.getD]
  · rw [if_neg h]
    by_cases h2 : i < l.length
    · simp [List.getD, List.getElem?_append_left h2]
    · simp [List.getD, List.getElem?_append_right (show l.length ≤ i by omega), show ¬ i < l.length by omega, List.getElem?_eq_none (show [v].length ≤ i - l.length by simp; omega), List.getElem?_eq_none (show l.length ≤ i by omega)]
theorem hc_addV {ad : Nat → Nat} {cy : Nat → ClassId} {x : HM} {k : Nat} (hk : k < 16) (s : Int64) (v : Int32) :
    (((hc_mem ad cy x).set (25 + k) (ad (25 + k), .inl (cy 1, 16, .inr (.inl (vp_updL (hc_stA x k) (x.vk k).length s))))).set (41 + k) (ad (41 + k), .inl (cy 0, 16, .inl (upd (hc_vaA x k) (x.vk k).length v)))).set (9 + k) (ad (9 + k), .inr (0, (hc_keyL ad x k).set 4 (.int (nI ((x.vk k).length + 1))))) = hc_mem ad cy (x.add k s v) := by
  unfold hc_mem
  rw [hs_rset1, hs_rset1, hs_rset1]
  apply List.map_congr_left
  intro j hj
  have hj : j < 65 := List.mem_range.mp hj
  congr 1
  by_cases c1 : j = 9 + k
  · subst c1
    rw [va_up_self, hc_c_key hk]
    show _ = Sum.inr (0, [Value.int (hs_bit k), .ref (ad (5 + k % 4)), .ref (ad (25 + k)), .ref (ad (41 + k)), .int (nI ((x.add k s v).vk k).length), .long (x.lr k), va_rf (Option.map (fun t => ad (57 + t)) (x.hd k)), .int (x.pl k)])
    rw [hs_vk_add, List.length_append]
    rfl
  · rw [va_up_ne _ _ c1]
    by_cases c2 : j = 41 + k
    · subst c2
      rw [va_up_self]
      have e : hc_cell ad cy (x.add k s v) (41 + k) = .inl (cy 0, 16, .inl (hc_vaA (x.add k s v) k)) := by
        simp [hc_cell, show ¬ 41 + k < 5 by omega, show ¬ 41 + k < 9 by omega, show ¬ 41 + k < 25 by omega, show ¬ 41 + k < 41 by omega, show 41 + k < 57 by omega]
      rw [e]
      congr 4
      funext i
      unfold hc_vaA upd
      rw [hs_vk_add, hs_getD_app]
      split <;> rfl
    · rw [va_up_ne _ _ c2]
      by_cases c3 : j = 25 + k
      · subst c3
        rw [va_up_self]
        have e : hc_cell ad cy (x.add k s v) (25 + k) = .inl (cy 1, 16, .inr (.inl (hc_stA (x.add k s v) k))) := by
          simp [hc_cell, show ¬ 25 + k < 5 by omega, show ¬ 25 + k < 9 by omega, show ¬ 25 + k < 25 by omega, show 25 + k < 41 by omega]
        rw [e]
        congr 5
        funext i
        unfold hc_stA vp_updL
        rw [hs_vk_add, hs_getD_app]
        split <;> rfl
      · rw [va_up_ne _ _ c3]
        unfold hc_cell
        by_cases a1 : j < 5
        · simp only [a1, if_true]; rfl
        · by_cases a2 : j < 9
          · simp only [a1, a2, if_true, if_false]; rfl
          · by_cases a3 : j < 25
            · simp only [a1, a2, a3, if_true, if_false]
              congr 2
              unfold hc_keyL
              rw [hs_vk_add_ne x (show j - 9 ≠ k by omega)]
              rfl
            · by_cases a4 : j < 41
              · simp only [a1, a2, a3, a4, if_true, if_false]
                unfold hc_stA
                rw [hs_vk_add_ne x (show j - 25 ≠ k by omega)]
              · by_cases a5 : j < 57
                · simp only [a1, a2, a3, a4, a5, if_true, if_false]
                  unfold hc_vaA
                  rw [hs_vk_add_ne x (show j - 41 ≠ k by omega)]
                · simp only [a1, a2, a3, a4, a5, if_false]; rfl
theorem hc_logC {ad : Nat → Nat} {cy : Nat → ClassId} {x : HM} (s : Int64) :
    ((hc_mem ad cy x).set 4 (ad 4, .inl (cy 1, 256, .inr (.inl (vp_updL (hc_cmA x) x.cm.length s))))).set 0 (ad 0, .inr (3, (hc_storeL ad x).set 4 (.int (nI (x.cm.length + 1))))) = hc_mem ad cy (x.s_cm (x.cm ++ [s])) := by
  unfold hc_mem
  rw [hs_rset1, hs_rset1]
  apply List.map_congr_left
  intro j hj
  have hj : j < 65 := List.mem_range.mp hj
  congr 1
  by_cases c1 : j = 0
  · subst c1
    rw [va_up_self]
    show _ = Sum.inr (3, [Value.ref (ad 1), .ref (ad 2), .ref (ad 3), .ref (ad 4), .int (nI (x.cm ++ [s]).length), .int (nI x.bs)])
    rw [List.length_append]
    rfl
  · rw [va_up_ne _ _ c1]
    by_cases c2 : j = 4
    · subst c2
      rw [va_up_self]
      show _ = Sum.inl (cy 1, 256, Sum.inr (Sum.inl (fun i => (x.cm ++ [s]).getD i 0)))
      congr 5
      funext i
      unfold vp_updL hc_cmA
      rw [hs_getD_app]
    · rw [va_up_ne _ _ c2]
      unfold hc_cell
      by_cases a1 : j < 5
      · simp only [a1, if_true]
        have : j = 1 ∨ j = 2 ∨ j = 3 := by omega
        rcases this with rfl | rfl | rfl <;> rfl
      · simp only [a1, if_false]; rfl
/-- the least free slot -/
def hs_fr (f : Nat → Int32) : Nat → Nat → Option Nat
  | 0, _ => none
  | n + 1, i => if f i = 0 then some i else hs_fr f n (i + 1)
/-- a reading that runs ahead of another node's -/
def hs_ra (f : Nat → Int32) (i : Nat) (r : Int32) : Nat → Nat → Bool
  | 0, _ => false
  | n + 1, j => if j ≠ i ∧ 10 < r - f j then true else hs_ra f i r n (j + 1)
theorem hs_fr_succ (f : Nat → Int32) (n i : Nat) : hs_fr f (n + 1) i = if f i = 0 then some i else hs_fr f n (i + 1) := rfl
theorem hs_ra_succ (f : Nat → Int32) (i : Nat) (r : Int32) (n j : Nat) : hs_ra f i r (n + 1) j = if j ≠ i ∧ 10 < r - f j then true else hs_ra f i r n (j + 1) := rfl
theorem hs_clr_hd (x : HM) (t n k : Nat) : (x.clr t n).hd k = if k < n ∧ x.hd k = some t then none else x.hd k := rfl
theorem hs_clr_self (x : HM) (t n : Nat) : (x.clr t n).hd n = x.hd n := by rw [hs_clr_hd, if_neg (by omega)]
theorem hs_s_hd2 (x : HM) (f g : Nat → Option Nat) : (x.s_hd f).s_hd g = x.s_hd g := rfl
theorem hs_clr_eq (x : HM) {t n : Nat} (h : x.hd n = some t) : (x.clr t n).u_hd n none = x.clr t (n + 1) := by
  show (x.clr t n).s_hd (va_up (x.clr t n).hd n none) = _
  unfold HM.clr
  rw [hs_s_hd2]
  congr 1
  funext k
  by_cases e : k = n
  · subst e; rw [va_up_self, if_pos ⟨by omega, h⟩]
  · rw [va_up_ne _ _ e]
    show (if k < n ∧ x.hd k = some t then none else x.hd k) = _
    by_cases q : k < n
    · simp [q, show k < n + 1 by omega]
    · simp [q, show ¬ k < n + 1 by omega]
theorem hs_clr_ne (x : HM) {t n : Nat} (h : ¬ x.hd n = some t) : x.clr t n = x.clr t (n + 1) := by
  unfold HM.clr
  congr 1
  funext k
  by_cases e : k = n
  · subst e; simp [h]
  · by_cases q : k < n
    · simp [q, show k < n + 1 by omega]
    · simp [q, show ¬ k < n + 1 by omega]
theorem hs_clr_0 (x : HM) (t : Nat) : x.clr t 0 = x := by
  have : (fun k => if k < 0 ∧ x.hd k = some t then none else x.hd k) = x.hd := by funext k; simp
  unfold HM.clr; rw [this]; rfl
/-- an object is known by its address -/
theorem hc_txI {ad : Nat → Nat} (ho : hc_ok ad) {o : Option Nat} {t : Nat} (ht : t < 8) (hu : ∀ u, o = some u → u < 8) : o.map (fun t => ad (57 + t)) = some (ad (57 + t)) ↔ o = some t := by
  cases o with
  | none => simp
  | some u =>
    have hu8 := hu u rfl
    simp only [Option.map_some, Option.some.injEq]
    exact ⟨fun h => by have := ho _ (by omega) _ (by omega) h; omega, fun h => by rw [h]⟩
theorem hc_nodeI {ad : Nat → Nat} (ho : hc_ok ad) {i j : Nat} (hi : i < 4) (hj : j < 4) : some (ad (5 + i)) = some (ad (5 + j)) ↔ i = j := by
  simp only [Option.some.injEq]
  exact ⟨fun h => by have := ho _ (by omega) _ (by omega) h; omega, fun h => by rw [h]⟩
theorem hs_sil_hd (x : HM) (u k : Nat) : (x.sil u).hd k = x.hd k := by unfold HM.sil; split <;> rfl
theorem hs_sil_vk (x : HM) (u k : Nat) : (x.sil u).vk k = x.vk k := by unfold HM.sil; split <;> rfl
theorem hs_lk3_hd (x : HM) (k u j : Nat) : (x.lk3 k u).hd j = x.hd j := hs_sil_hd _ _ _
theorem hs_lk3_vk (x : HM) (k u j : Nat) : (x.lk3 k u).vk j = x.vk j := hs_sil_vk _ _ _

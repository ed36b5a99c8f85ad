/-! ===== what holds of every state that a run of calls reaches: shape, counts, bounds of stamps ===== -/
def hs_P2 (hd : Nat → Option Nat) (vk : Nat → List (Int64 × Int32)) : Prop := ∀ k, k < 16 → (∀ u, hd k = some u → u < 8) ∧ (vk k).length ≤ 16 ∧ ((hd k).isSome → (vk k).length < 16)
def hs_PL (f : Nat → Int64) (n : Nat) (B : Int) : Prop := ∀ i, i < n → 0 ≤ (f i).toInt ∧ (f i).toInt ≤ B
def hs_P6 (ws : Nat → Int64) (ph : Nat → Int32) : Prop := ∀ t, t < 8 → ¬ ph t = 0 → 1 ≤ (ws t).toInt
def hs_P8 (vs : List (Nat × Int64 × Int32)) (B : Int) : Prop := ∀ v ∈ vs, v.1 < 16 ∧ 1 ≤ v.2.1.toInt ∧ v.2.1.toInt ≤ B
def HM.In (x : HM) (B : Int) : Prop := (∀ t, t < 8 → x.gt t < 4) ∧ hs_P2 x.hd x.vk ∧ hs_PL x.ck 4 B ∧ (∀ i, i < 4 → 0 ≤ (x.rd i).toInt) ∧ hs_PL x.rs 8 B ∧ hs_PL x.ws 8 B ∧ hs_P6 x.ws x.ph ∧ hs_PL x.lr 16 B ∧ hs_P8 x.vs B ∧ 2251799813685248 ≤ B
theorem hs_PL.mono {f : Nat → Int64} {n : Nat} {B C : Int} (h : hs_PL f n B) (hBC : B ≤ C) : hs_PL f n C := fun i hi => ⟨(h i hi).1, Int.le_trans (h i hi).2 hBC⟩
theorem hs_P8.mono {vs : List (Nat × Int64 × Int32)} {B C : Int} (h : hs_P8 vs B) (hBC : B ≤ C) : hs_P8 vs C := fun v hv => ⟨(h v hv).1, (h v hv).2.1, Int.le_trans (h v hv).2.2 hBC⟩
theorem HM.In.mono {x : HM} {B C : Int} (h : x.In B) (hBC : B ≤ C) : x.In C := ⟨h.1, h.2.1, h.2.2.1.mono hBC, h.2.2.2.1, h.2.2.2.2.1.mono hBC, h.2.2.2.2.2.1.mono hBC, h.2.2.2.2.2.2.1, h.2.2.2.2.2.2.2.1.mono hBC, h.2.2.2.2.2.2.2.2.1.mono hBC, Int.le_trans h.2.2.2.2.2.2.2.2.2 hBC⟩
theorem hs_PL.up {f : Nat → Int64} {n : Nat} {B : Int} (h : hs_PL f n B) (i : Nat) {v : Int64} (h0 : 0 ≤ v.toInt) (h1 : v.toInt ≤ B) : hs_PL (va_up f i v) n B := fun j hj => by
  by_cases e : j = i
  · subst e; rw [va_up_self]; exact ⟨h0, h1⟩
  · rw [va_up_ne _ _ e]; exact h j hj
theorem hs_toInt1 {s : Int64} (h : s.toInt < 4611686018427387904) : (s + 1).toInt = s.toInt + 1 := by
  have h4 := Int64.le_toInt s
  have h5 : (1 : Int64).toInt = 1 := by decide
  rw [Int64.toInt_add, h5]
  exact Int.bmod_eq_of_le (by omega) (by omega)
theorem hs_wall (r : Int32) : (Int32.toInt64 r * 1048576).toInt = r.toInt * 1048576 := by
  have h1 := Int32.le_toInt r
  have h2 := Int32.toInt_lt r
  have h5 : (1048576 : Int64).toInt = 1048576 := by decide
  rw [Int64.toInt_mul, h5, Int32.toInt_toInt64]
  exact Int.bmod_eq_of_le (by omega) (by omega)
theorem hs_tk_in {r : Int32} {c s : Int64} {B : Int} (hB : 2251799813685248 ≤ B) (hB2 : B < 4611686018427387904) (hr : 0 ≤ r.toInt) (hc : 0 ≤ c.toInt ∧ c.toInt ≤ B) (hs : 0 ≤ s.toInt ∧ s.toInt ≤ B) : 1 ≤ (hs_tk r c s).toInt ∧ (hs_tk r c s).toInt ≤ B + 1 := by
  unfold hs_tk
  have h2 := Int32.toInt_lt r
  have e : ∃ q : Int64, (if s < c then c else s) = q ∧ 0 ≤ q.toInt ∧ q.toInt ≤ B := by
    by_cases z : s < c
    · exact ⟨c, if_pos z, hc⟩
    · exact ⟨s, if_neg z, hs⟩
  obtain ⟨q, e, hq⟩ := e
  rw [e]
  have e1 := hs_toInt1 (s := q) (by omega)
  by_cases z : Int32.toInt64 r * 1048576 < q + 1
  · rw [if_pos z, e1]; omega
  · rw [if_neg z]
    have z := Int64.not_lt.mp z
    rw [Int64.le_iff_toInt_le, e1] at z
    rw [hs_wall] at z ⊢
    omega
theorem HM.In.tk {x : HM} {B : Int} (h : x.In B) (hB2 : B < 4611686018427387904) {i : Nat} (hi : i < 4) {s : Int64} (hs : 0 ≤ s.toInt ∧ s.toInt ≤ B) : (x.tk i s).In (B + 1) := by
  have h' := h.mono (C := B + 1) (by omega)
  have q := hs_tk_in h.2.2.2.2.2.2.2.2.2 hB2 (h.2.2.2.1 i hi) (h.2.2.1 i hi) hs
  exact ⟨h'.1, h'.2.1, h'.2.2.1.up i (by omega) q.2, h'.2.2.2⟩
theorem HM.In.ck {x : HM} {B : Int} (h : x.In B) {i : Nat} (hi : i < 4) : 0 ≤ (x.ck i).toInt ∧ (x.ck i).toInt ≤ B := h.2.2.1 i hi
theorem HM.In.gt {x : HM} {B : Int} (h : x.In B) {t : Nat} (ht : t < 8) : x.gt t < 4 := h.1 t ht
theorem HM.In.rs {x : HM} {B : Int} (h : x.In B) {t : Nat} (ht : t < 8) : 0 ≤ (x.rs t).toInt ∧ (x.rs t).toInt ≤ B := h.2.2.2.2.1 t ht
theorem HM.In.ws {x : HM} {B : Int} (h : x.In B) {t : Nat} (ht : t < 8) : 0 ≤ (x.ws t).toInt ∧ (x.ws t).toInt ≤ B := h.2.2.2.2.2.1 t ht
theorem HM.In.lr {x : HM} {B : Int} (h : x.In B) {k : Nat} (hk : k < 16) : 0 ≤ (x.lr k).toInt ∧ (x.lr k).toInt ≤ B := h.2.2.2.2.2.2.2.1 k hk
theorem HM.In.hd {x : HM} {B : Int} (h : x.In B) {k : Nat} (hk : k < 16) : ∀ u, x.hd k = some u → u < 8 := (h.2.1 k hk).1
theorem HM.In.le16 {x : HM} {B : Int} (h : x.In B) {k : Nat} (hk : k < 16) : (x.vk k).length ≤ 16 := (h.2.1 k hk).2.1
theorem HM.In.lt16 {x : HM} {B : Int} (h : x.In B) {k : Nat} (hk : k < 16) : (x.hd k).isSome → (x.vk k).length < 16 := (h.2.1 k hk).2.2
theorem HM.In.ev {x : HM} {B : Int} (h : x.In B) (hB2 : B < 4611686018427387904) {i : Nat} (hi : i < 4) : (x.ev i).In (B + 1) := h.tk hB2 hi (h.ck hi)
theorem HM.In.pu {x : HM} {B : Int} (h : x.In B) (hB2 : B < 4611686018427387904) {t : Nat} (ht : t < 8) {s : Int64} (hs : -1 ≤ s.toInt ∧ s.toInt ≤ B) : (x.pu t s).In (B + 1) := by
  have h' := h.mono (C := B + 1) (by omega)
  have hw := h.ws ht
  have e1 := hs_toInt1 (s := s) (by omega)
  have q : 0 ≤ (if x.ws t ≤ s then s + 1 else x.ws t).toInt ∧ (if x.ws t ≤ s then s + 1 else x.ws t).toInt ≤ B + 1 := by
    by_cases z : x.ws t ≤ s
    · rw [if_pos z, e1]; omega
    · rw [if_neg z]; omega
  refine ⟨h'.1, h'.2.1, h'.2.2.1, h'.2.2.2.1, h'.2.2.2.2.1, h'.2.2.2.2.2.1.up t q.1 q.2, fun j hj hp => ?_, h'.2.2.2.2.2.2.2⟩
  have h6 := h.2.2.2.2.2.2.1 j hj hp
  show 1 ≤ (va_up x.ws t _ j).toInt
  by_cases e : j = t
  · subst e
    rw [va_up_self]
    by_cases z : x.ws j ≤ s
    · rw [if_pos z, e1]; have := Int64.le_iff_toInt_le.mp z; omega
    · rw [if_neg z]; exact h6
  · rw [va_up_ne _ _ e]; exact h6
theorem HM.In.sil {x : HM} {B : Int} (h : x.In B) (u : Nat) : (x.sil u).In B := by
  unfold HM.sil
  split
  · rename_i c
    refine ⟨h.1, h.2.1, h.2.2.1, h.2.2.2.1, h.2.2.2.2.1, h.2.2.2.2.2.1, fun j hj hp => ?_, h.2.2.2.2.2.2.2⟩
    by_cases e : j = u
    · subst e; exact h.2.2.2.2.2.2.1 j hj (by rw [c.1]; decide)
    · refine h.2.2.2.2.2.2.1 j hj (fun q => hp ?_)
      show va_up x.ph u 3 j = 0
      rw [va_up_ne _ _ e]; exact q
  · exact h
theorem HM.In.u_hdN {x : HM} {B : Int} (h : x.In B) (k : Nat) : (x.u_hd k none).In B := by
  refine ⟨h.1, fun j hj => ?_, h.2.2⟩
  have := h.2.1 j hj
  show (∀ u, va_up x.hd k none j = some u → u < 8) ∧ (x.vk j).length ≤ 16 ∧ ((va_up x.hd k none j).isSome → (x.vk j).length < 16)
  by_cases e : j = k
  · subst e; rw [va_up_self]; exact ⟨fun u q => (by cases q), this.2.1, fun q => (by cases q)⟩
  · rw [va_up_ne _ _ e]; exact this
theorem HM.In.u_hdS {x : HM} {B : Int} (h : x.In B) {k t : Nat} (ht : t < 8) (hl : (x.vk k).length < 16) : (x.u_hd k (some t)).In B := by
  refine ⟨h.1, fun j hj => ?_, h.2.2⟩
  have := h.2.1 j hj
  show (∀ u, va_up x.hd k (some t) j = some u → u < 8) ∧ (x.vk j).length ≤ 16 ∧ ((va_up x.hd k (some t) j).isSome → (x.vk j).length < 16)
  by_cases e : j = k
  · subst e; rw [va_up_self]; exact ⟨fun u q => (by cases q; exact ht), this.2.1, fun _ => hl⟩
  · rw [va_up_ne _ _ e]; exact this
theorem HM.In.add {x : HM} {B : Int} (h : x.In B) {k : Nat} (hk : k < 16) (hn : x.hd k = none) (hl : (x.vk k).length < 16) {s : Int64} (hs : 1 ≤ s.toInt ∧ s.toInt ≤ B) (v : Int32) : (x.add k s v).In B := by
  have h2 : hs_P2 x.hd (x.add k s v).vk := by
    intro j hj
    have h3 := h.2.1 j hj
    by_cases e : j = k
    · subst e
      rw [hs_vk_add, List.length_append, hn]
      exact ⟨fun u q => (by cases q), (by simp; omega), fun q => (by cases q)⟩
    · rw [hs_vk_add_ne x e]; exact h3
  have h8 : hs_P8 (x.vs ++ [(k, s, v)]) B := by
    intro w hw
    rcases List.mem_append.mp hw with q | q
    · exact h.2.2.2.2.2.2.2.2.1 w q
    · rw [List.mem_singleton.mp q]; exact ⟨hk, hs⟩
  exact ⟨h.1, h2, h.2.2.1, h.2.2.2.1, h.2.2.2.2.1, h.2.2.2.2.2.1, h.2.2.2.2.2.2.1, h.2.2.2.2.2.2.2.1, h8, h.2.2.2.2.2.2.2.2.2⟩
theorem HM.In.stl {x : HM} {B : Int} (h : x.In B) {k u : Nat} (hk : k < 16) (hu : u < 8) (hl : (x.vk k).length < 16) : (x.stl k u).In B := by
  unfold HM.stl
  split
  · rename_i c
    have h1 := h.2.2.2.2.2.2.1 u hu (by rw [c]; decide)
    have h2 := (h.u_hdN k).add hk (show (x.u_hd k none).hd k = none from va_up_self _ _ _) hl ⟨h1, (h.ws hu).2⟩ (x.pl k)
    exact h2
  · exact h.u_hdN k
theorem HM.In.lk3 {x : HM} {B : Int} (h : x.In B) (hB2 : B + 1 < 4611686018427387904) {k u : Nat} (hu : u < 8) : (x.lk3 k u).In (B + 2) := by
  have hg := h.gt hu
  have hm : k % 4 < 4 := Nat.mod_lt _ (by decide)
  have h1 : (x.lk1 k u).In (B + 1) := h.tk (by omega) hg (h.ck hm)
  have h2 : (x.lk2 k u).In (B + 1 + 1) := h1.tk (by omega) hm (h1.ck hg)
  have h3 := h2.sil u
  rw [show B + 1 + 1 = B + 2 by omega] at h3
  exact h3
theorem HM.In.lk {x : HM} {B : Int} (h : x.In B) (hB2 : B + 1 < 4611686018427387904) {k u : Nat} (hk : k < 16) (hu : u < 8) (hl : (x.vk k).length < 16) : (x.lk k u).In (B + 2) := by
  unfold HM.lk
  split
  · exact h.lk3 hB2 hu
  · exact (h.lk3 hB2 hu).stl hk hu (by rw [hs_lk3_vk]; exact hl)
theorem HM.In.look {x : HM} {B : Int} (h : x.In B) (hB2 : B + 1 < 4611686018427387904) {t k : Nat} (hk : k < 16) : (x.look t k).In (B + 2) := by
  unfold HM.look
  cases hh : x.hd k with
  | none => exact h.mono (by omega)
  | some u =>
    dsimp only
    split
    · exact h.mono (by omega)
    · exact h.lk hB2 hk (h.hd hk u hh) (h.lt16 hk (by rw [hh]; rfl))
theorem HM.In.lkU {x : HM} {B : Int} (h : x.In B) {t k u : Nat} (hk : k < 16) (hl : x.lkU t k = some u) : u < 8 := by
  unfold HM.lkU at hl
  cases hh : x.hd k with
  | none => rw [hh] at hl; cases hl
  | some w =>
    rw [hh] at hl
    dsimp only at hl
    split at hl
    · cases hl
    · split at hl
      · cases hl; exact h.hd hk _ hh
      · cases hl
theorem HM.In.clr {x : HM} {B : Int} (h : x.In B) (t n : Nat) : (x.clr t n).In B := by
  refine ⟨h.1, fun j hj => ?_, h.2.2⟩
  have := h.2.1 j hj
  show (∀ u, (if j < n ∧ x.hd j = some t then none else x.hd j) = some u → u < 8) ∧ (x.vk j).length ≤ 16 ∧ ((if j < n ∧ x.hd j = some t then none else x.hd j).isSome → (x.vk j).length < 16)
  split
  · exact ⟨fun u q => (by cases q), this.2.1, fun q => (by cases q)⟩
  · exact this
theorem hs_mv_ws (x : HM) (t : Nat) (a : Int64) : (x.mv t a).ws = va_up x.ws t (if a < x.ws t then x.ws t else a) := rfl
theorem hs_mv_rs (x : HM) (t : Nat) (a : Int64) : (x.mv t a).rs = va_up x.rs t (if a < x.ws t then x.ws t else a) := by
  show va_up x.rs t ((va_up x.ws t (if a < x.ws t then x.ws t else a)) t) = _
  rw [va_up_self]
theorem HM.In.mv {x : HM} {B : Int} (h : x.In B) {t : Nat} (ht : t < 8) {a : Int64} (ha : a.toInt ≤ B) : (x.mv t a).In B := by
  have hw := h.ws ht
  have q : 0 ≤ (if a < x.ws t then x.ws t else a).toInt ∧ (if a < x.ws t then x.ws t else a).toInt ≤ B ∧ (x.ws t).toInt ≤ (if a < x.ws t then x.ws t else a).toInt := by
    by_cases z : a < x.ws t
    · rw [if_pos z]; omega
    · rw [if_neg z]
      have z := Int64.le_iff_toInt_le.mp (Int64.not_lt.mp z)
      omega
  refine ⟨h.1, h.2.1, h.2.2.1, h.2.2.2.1, ?_, ?_, ?_, h.2.2.2.2.2.2.2⟩
  · rw [hs_mv_rs]; exact h.2.2.2.2.1.up t q.1 q.2.1
  · rw [hs_mv_ws]; exact h.2.2.2.2.2.1.up t q.1 q.2.1
  · intro j hj hp
    have h6 := h.2.2.2.2.2.2.1 j hj hp
    rw [hs_mv_ws]
    by_cases e : j = t
    · subst e; rw [va_up_self]; omega
    · rw [va_up_ne _ _ e]; exact h6
theorem HM.In.re {x : HM} {B : Int} (h : x.In B) {t : Nat} (ht : t < 8) {a : Int64} (ha : a.toInt ≤ B) : (x.re t a).In B := (h.clr t 16).mv ht ha
theorem HM.In.u_lr {x : HM} {B : Int} (h : x.In B) (k : Nat) {s : Int64} (hs : 0 ≤ s.toInt ∧ s.toInt ≤ B) : (x.u_lr k s).In B := ⟨h.1, h.2.1, h.2.2.1, h.2.2.2.1, h.2.2.2.2.1, h.2.2.2.2.2.1, h.2.2.2.2.2.2.1, h.2.2.2.2.2.2.2.1.up k hs.1 hs.2, h.2.2.2.2.2.2.2.2⟩
theorem HM.In.u_se {x : HM} {B : Int} (h : x.In B) (t : Nat) (f : Nat → Bool) : (x.u_se t f).In B := h
theorem HM.In.u_pl {x : HM} {B : Int} (h : x.In B) (k : Nat) (v : Int32) : (x.u_pl k v).In B := h
theorem HM.In.u_hu {x : HM} {B : Int} (h : x.In B) (k : Nat) (v : Int32) : (x.u_hu k v).In B := h
/-- what the best version is -/
theorem hs_fb_or (a u : Int64) (acc : Option (Int64 × Int32)) (w : Int64 × Int32) : (hs_fb a u acc w = some w ∧ (match acc with | none => a | some y => y.1) < w.1 ∧ w.1 ≤ u) ∨ hs_fb a u acc w = acc := by
  by_cases c : (match acc with | none => a | some y => y.1) < w.1 ∧ w.1 ≤ u
  · exact Or.inl ⟨if_pos c, c⟩
  · exact Or.inr (if_neg c)
theorem hs_best_mem {a u : Int64} {l : List (Int64 × Int32)} {v : Int64 × Int32} (h : hs_best a u l = some v) : v ∈ l ∧ a < v.1 ∧ v.1 ≤ u := by
  have key : ∀ (l : List (Int64 × Int32)) (acc : Option (Int64 × Int32)), (∀ w, acc = some w → a < w.1 ∧ w.1 ≤ u) → ∀ v, l.foldl (hs_fb a u) acc = some v → (v ∈ l ∨ acc = some v) ∧ a < v.1 ∧ v.1 ≤ u := by
    intro l
    induction l with
    | nil => intro acc hacc v h; exact ⟨Or.inr h, hacc v h⟩
    | cons w l ih =>
      intro acc hacc v h
      have hn : ∀ z, hs_fb a u acc w = some z → a < z.1 ∧ z.1 ≤ u := by
        intro z hz
        rcases hs_fb_or a u acc w with ⟨c0, c1, c2⟩ | c0
        · rw [c0] at hz
          cases hz
          refine ⟨?_, c2⟩
          cases acc with
          | none => exact c1
          | some y => exact Int64.lt_trans (hacc y rfl).1 c1
        · rw [c0] at hz; exact hacc z hz
      obtain ⟨h1, h2⟩ := ih _ hn v h
      refine ⟨?_, h2⟩
      rcases h1 with h1 | h1
      · exact Or.inl (List.mem_cons_of_mem _ h1)
      · rcases hs_fb_or a u acc w with ⟨c0, -⟩ | c0
        · rw [c0] at h1; cases h1; exact Or.inl List.mem_cons_self
        · rw [c0] at h1; exact Or.inr h1
  obtain ⟨h1, h2⟩ := key l none (fun w q => by cases q) v h
  exact ⟨h1.resolve_right (fun q => by cases q), h2⟩
theorem HM.In.vk {x : HM} {B : Int} (h : x.In B) {k : Nat} {v : Int64 × Int32} (hv : v ∈ x.vk k) : 1 ≤ v.1.toInt ∧ v.1.toInt ≤ B := by
  obtain ⟨w, hw, rfl⟩ := List.mem_map.mp hv
  exact (h.2.2.2.2.2.2.2.2.1 w (List.mem_filter.mp hw).1).2
theorem HM.In.gs {x : HM} {B : Int} (h : x.In B) (a u : Int64) (k : Nat) : -1 ≤ (hs_gs (hs_best a u (x.vk k))).toInt ∧ (hs_gs (hs_best a u (x.vk k))).toInt ≤ B := by
  cases hq : hs_best a u (x.vk k) with
  | none => have := h.2.2.2.2.2.2.2.2.2; have e : (hs_gs none).toInt = -1 := by decide
            rw [e]; omega
  | some v => have := h.vk (hs_best_mem hq).1; show -1 ≤ v.1.toInt ∧ v.1.toInt ≤ B; omega
theorem HM.In.gs_m1 {x : HM} {B : Int} (h : x.In B) (a u : Int64) (k : Nat) : hs_gs (hs_best a u (x.vk k)) = -1 ↔ hs_best a u (x.vk k) = none := by
  cases hq : hs_best a u (x.vk k) with
  | none => simp [hs_gs]
  | some v =>
    have := h.vk (hs_best_mem hq).1
    simp only [hs_gs]
    refine ⟨fun q => ?_, fun q => by cases q⟩
    rw [q] at this
    exact absurd this.1 (by decide)
theorem hs_lt_max {s : Int64} {B : Int} (hB : B < 4611686018427387904) (h : s.toInt ≤ B) : s < 9223372036854775807 := by
  rw [Int64.lt_iff_toInt_lt]
  have e : (9223372036854775807 : Int64).toInt = 9223372036854775807 := by decide
  rw [e]; omega

section HSW
variable {p : Program} {l : Launch} {e : Env} {R : Room} {s : State} {m : MethodId} {args : Array Value} {below : List Frame} {meth : Method} {c : Code} {H : Heap} {locs : List Loc} {cells slots : Nat} {Q : State → Prop}
variable {cc : ByteArray} {pc : Nat} {ls : Array Slot} {rest : List Value} {D : va_G} {cy : Nat → ClassId} {Ts : List Cond} {own : String} {b0 : Nat} {f : Nat → va_E}
/-- the first object of a world that grows -/
theorem hs_newF (G : hs_C p s m c cc args Ts own D cy) {C : String} {T : u_T} {N ci index : Nat} (hin : ∀ w ∈ u_ws C T N, w ∈ Ts) (ty : Nat → FieldType) (hty : ∀ k, k < N → parseFieldDescriptor (T k).2.2.1 = some (ty k)) (hcl : Cond.classLink own index C ∈ Ts) (hinst : Cond.instantiable C N ∈ Ts) (hini : Cond.initialized C ∈ Ts) (hc : vwCl[ci]? = some (C, T, N))
    (hH : H.size = b0) {fs : List Value} (hfs : ∀ j, j < N → defaultValue (ty j) = vp_V fs j) (hf : f 0 = .inr (ci, fs)) (hcells : cells + 1 ≤ R.cells) (hslots : slots + N ≤ R.slots) (hdg : decode cc pc = .ok (.new index, 3))
    (kk : ∀ (H1 : Heap), va_P D vwCl (hs_wl b0 (b0 + 1) f 1) H1 → H1.size = b0 + 1 → (∀ q : Nat, q < b0 → H1[q]? = H[q]?) → W p l e R s m args below meth c H1 locs (cells + 1) (slots + N) Q (F0 m (pc + 3) ls (.ref (hs_ad b0 (b0 + 1) 0) :: rest))) : W p l e R s m args below meth c H locs cells slots Q (F0 m pc ls rest) := by
  have hKn := G.2.2.2.2.1.1 ci _ hc
  refine W.newcK G.1 G.2.1 G.2.2.2.1 (G.2.2.1 _ hcl) (G.2.2.1 _ hinst) (G.2.2.1 _ hini) (g := F0 m pc ls rest) rfl hdg hcells hslots hKn.2.1 hH fun H1 kC hkC e1 z1 o1 => ?_
  refine kk H1 (hs_wl_push (n := 0) (H := #[]) (fun k q hq => absurd (hs_wl_key hq).1 (Nat.not_lt_zero _)) (fun q hq => absurd hq (Nat.not_lt_zero _)) ?_) z1 o1
  rw [hf]
  exact ⟨_, hc, (u_born ty G.2.2.1 hin hKn hkC e1 hty).to hfs⟩
theorem hs_wl_kept {sz n : Nat} {H1 : Heap} {A1 : Nat → Prop} (hP : va_P D vwCl (hs_wl b0 sz f n) H) (hk : ∀ q : Nat, q < H.size → ¬ A1 q → H1[q]? = H[q]?) (hA : ∀ j, j < n → ¬ A1 (hs_ad b0 sz j)) : va_P D vwCl (hs_wl b0 sz f n) H1 := by
  intro k q hq
  obtain ⟨h1, rfl⟩ := hs_wl_key hq
  have h2 := hP k _ (hs_wl_at h1)
  exact h2.kept (hk _ h2.lt (hA k h1))
end HSW
theorem hs_ad_lt {b0 j n : Nat} (h : j < n) : hs_ad b0 (b0 + 1) j < b0 + n := by
  unfold hs_ad; split <;> omega
theorem hs_ad_le {b0 : Nat} (j : Nat) : b0 ≤ hs_ad b0 (b0 + 1) j := by
  unfold hs_ad; split <;> omega
/-- the tables that a walk needs, from the words -/
theorem hs_know {s : State} {b : Nat} (hts0 : ∀ w ∈ lw_tbl, w.before #[Value.ref b] s = true) : ∃ (D : va_G) (cy : Nat → ClassId), va_K D vwCl (hs_tys cy) s := by
  obtain ⟨c0, i0, h0⟩ := u_known (C := RX0) (T := TX0) (N := 8) hts0 lwx_0 (hts0 _ lwi_0)
  obtain ⟨c1, i1, h1⟩ := u_known (C := RX1) (T := TX1) (N := 2) hts0 lwx_1 (hts0 _ lwi_1)
  obtain ⟨c2, i2, h2⟩ := u_known (C := RX2) (T := TX2) (N := 9) hts0 lwx_2 (hts0 _ lwi_2)
  obtain ⟨c3, i3, h3⟩ := u_known (C := RX3) (T := TX3) (N := 6) hts0 lwx_3 (hts0 _ lwi_3)
  obtain ⟨c4, i4, h4⟩ := u_known (C := RX4) (T := TX4) (N := 21) hts0 lwx_4 (hts0 _ lwi_4)
  obtain ⟨y0, k0, m0, f0, g0, t0⟩ := Cond.arrayClass_spec (hts0 _ lwa_int)
  obtain ⟨y1, k1, m1, f1, g1, t1⟩ := Cond.arrayClass_spec (hts0 _ lwa_long)
  obtain ⟨y2, k2, m2, f2, g2, t2⟩ := Cond.arrayClass_spec (hts0 _ lwa_boolean)
  obtain ⟨m3, y3, k3, a3, -, g3, t3, f3⟩ := Cond.arrayOver_spec (hts0 _ lwo_N)
  obtain ⟨m4, y4, k4, a4, -, g4, t4, f4⟩ := Cond.arrayOver_spec (hts0 _ lwo_K)
  obtain ⟨m5, y5, k5, a5, -, g5, t5, f5⟩ := Cond.arrayOver_spec (hts0 _ lwo_T)
  refine ⟨(fun k => if k = 0 then c0 else if k = 1 then c1 else if k = 2 then c2 else if k = 3 then c3 else c4, fun k => if k = 0 then i0 else if k = 1 then i1 else if k = 2 then i2 else if k = 3 then i3 else i4), fun k => if k = 0 then y0 else if k = 1 then y1 else if k = 2 then y2 else if k = 3 then y3 else if k = 4 then y4 else y5, ?_, ?_⟩
  · intro k q hq
    match k, hq with
    | 0, hq => cases hq; exact h0
    | 1, hq => cases hq; exact h1
    | 2, hq => cases hq; exact h2
    | 3, hq => cases hq; exact h3
    | 4, hq => cases hq; exact h4
    | k + 5, hq => simp [vwCl] at hq
  · intro k q hq
    match k, hq with
    | 0, hq => cases hq; exact ⟨fun n z => ⟨fun k h => (by cases h), k0, g0, m0, t0⟩, f0⟩
    | 1, hq => cases hq; exact ⟨fun n z => ⟨fun k h => (by cases h), k1, g1, m1, t1⟩, f1⟩
    | 2, hq => cases hq; exact ⟨fun n z => ⟨fun k h => (by cases h), k2, g2, m2, t2⟩, f2⟩
    | 3, hq => cases hq; exact ⟨fun n z => ⟨fun k h => (by cases h), k3, g3, m3, t3⟩, k3, m3, g3, t3, a3, f3⟩
    | 4, hq => cases hq; exact ⟨fun n z => ⟨fun k h => (by cases h), k4, g4, m4, t4⟩, k4, m4, g4, t4, a4, f4⟩
    | 5, hq => cases hq; exact ⟨fun n z => ⟨fun k h => (by cases h), k5, g5, m5, t5⟩, k5, m5, g5, t5, a5, f5⟩
    | k + 6, hq => simp [hs_tys] at hq
theorem hs_cl3 : Cond.classLink RL 7 RX3 ∈ lw_tbl := by decide +kernel
theorem hs_cl4 : Cond.classLink RL 10 RX4 ∈ lw_tbl := by decide +kernel
theorem hs_in3 : Cond.initialized RX3 ∈ lw_tbl := by decide +kernel
theorem hs_in4 : Cond.initialized RX4 ∈ lw_tbl := by decide +kernel
theorem hs_df3 : ∀ j, j < 6 → defaultValue (tyX3 j) = vp_V [.null, .null, .null, .null, .int 0, .int 0] j := by
  intro j hj
  rcases (show j = 0 ∨ j = 1 ∨ j = 2 ∨ j = 3 ∨ j = 4 ∨ j = 5 by omega) with rfl | rfl | rfl | rfl | rfl | rfl <;> rfl
theorem hs_df4 : ∀ j, j < 21 → defaultValue (tyX4 j) = vp_V hm_f0 j := by
  intro j hj
  rcases (show j = 0 ∨ j = 1 ∨ j = 2 ∨ j = 3 ∨ j = 4 ∨ j = 5 ∨ j = 6 ∨ j = 7 ∨ j = 8 ∨ j = 9 ∨ j = 10 ∨ j = 11 ∨ j = 12 ∨ j = 13 ∨ j = 14 ∨ j = 15 ∨ j = 16 ∨ j = 17 ∨ j = 18 ∨ j = 19 ∨ j = 20 by omega) with rfl | rfl | rfl | rfl | rfl | rfl | rfl | rfl | rfl | rfl | rfl | rfl | rfl | rfl | rfl | rfl | rfl | rfl | rfl | rfl | rfl <;> rfl
set_option maxHeartbeats 4000000 in
set_option maxRecDepth 100000 in
/-- THE LAW, from its entry -/
theorem whole_start {p : Program} {e : Env} {s : State} {m : MethodId} {below : List Frame} {meth : Method} {c : Code} (l : Launch) {b L : Nat} {xs : Nat → Int32} (hL : L ≤ 2048) (C0 : lw_At p s m meth c b L xs) : W p l e room_1 s m #[Value.ref b] below meth c s.heap [] 0 0 (lw_Z below #[Value.ref b] s) (entryFrame m ([Value.ref b] : List Value).toArray 4) := by
  obtain ⟨hx, hb, hr, hml, hown, hts0, hX, hbl, hlocks, -⟩ := C0
  have hts : ∀ w ∈ wsL_law, w.before #[Value.ref b] s = true := fun w h => hts0 w (wsL_law_in w h)
  obtain ⟨D, cy, hK⟩ := hs_know hts0
  have hNW : hs_NW s := ⟨fun q hq => va_Nw.of rfl (hts0 _ (lwn_f q hq)), fun q hq => va_Nw.of rfl (hts0 _ (lwn_m q hq))⟩
  have hAO : hs_AO s := ⟨va_AO.of (hts0 _ lwo_N), va_AO.of (hts0 _ lwo_K), va_AO.of (hts0 _ lwo_T)⟩
  have G : hs_C p s m c code #[Value.ref b] wsL_law RL D cy := ⟨hx, hb, hts, hown, hK, hNW⟩
  have G0 : hs_C p s m c code #[Value.ref b] lw_tbl RL D cy := ⟨hx, hb, hts0, hown, hK, hNW⟩
  have hl := lv_entry ([.ref b]) (n := 4) (Nat.le_of_ble_eq_true rfl)
  rw [lg_entry_eq]
  generalize (lg_sl ([.ref b]) ++ List.replicate (4 - (lg_sl ([.ref b])).length) Slot.unset).toArray = ls at hl ⊢
  have hl : lv_has ls 4 [(0, .ref b)] := hl
  obtain ⟨b0, hb0⟩ : ∃ b0 : Nat, s.heap.size = b0 := ⟨_, rfl⟩
  refine hs_newF (f := hk b0 (b0 + 1) cy [.null, .null, .null, .null, .int 0, .int 0] 0 0 0) G0 lwx_3 tyX3 tyX3_ok hs_cl3 lwi_3 hs_in3 (ci := 3) rfl hb0 hs_df3 rfl (Nat.le_of_ble_eq_true rfl) (Nat.le_of_ble_eq_true rfl) dL_law_0 (fun H hP hz ho => ?_)
  have hS : va_S (fun q : Nat => s.heap.size ≤ q) s.heap H [] := ⟨by omega, fun q h1 _ => ho q (by omega), fun q hq => absurd hq List.not_mem_nil⟩
  clear ho
  refine lv_dup hx hb dL_law_3 rfl ?_
  refine hs_callI (As := []) (rest := [.ref (hs_ad b0 (b0 + 1) 0)]) G hAO hml (k_Store l D cy b0 (b0 + 1) (by omega)) gL_law_X3_init rfl rfl rfl (by decide +kernel) (by decide +kernel) (by decide +kernel) rfl (n := 0) (by decide +kernel) ⟨Nat.le_of_ble_eq_true rfl, Nat.le_of_ble_eq_true rfl⟩ rfl hl.1 (Nat.le_of_ble_eq_true rfl) ⟨Nat.le_of_ble_eq_true rfl, Nat.le_of_ble_eq_true rfl⟩ hP hz hS (fun q hq => by rcases hq with h | h <;> omega) rfl dL_law_4 (fun H locs hPc hS _ _ => ?_)
  clear hz hP
  refine lv_astore_n hx hb dL_law_7 rfl hl (by decide) rfl (fun ls hl => ?_)
  refine W.sized fun hup => ?_
  have hlow : hs_ad b0 (b0 + 1) 64 < H.size := (hPc 64 _ (hs_wl_at (by decide))).lt
  have hH : H.size = b0 + 65 := by
    have h2 : hs_ad b0 (b0 + 1) 64 = b0 + 1 + 63 := rfl
    omega
  obtain ⟨b1, hb1⟩ : ∃ b1 : Nat, b0 + 65 = b1 := ⟨_, rfl⟩
  rw [hb1] at hH
  refine hs_newF (f := va_up (hm_Z cy) 0 (.inr (4, hm_f0))) G0 lwx_4 tyX4 tyX4_ok hs_cl4 lwi_4 hs_in4 (ci := 4) rfl hH hs_df4 (va_up_self _ _ _) (Nat.le_of_ble_eq_true rfl) (Nat.le_of_ble_eq_true rfl) dL_law_8 (fun H1 hPm hz ho => ?_)
  have hS1 : va_S (fun q : Nat => s.heap.size ≤ q) s.heap H1 locs := ⟨by omega, fun q h1 h2 => (ho q (by omega)).trans (hS.2.1 q h1 h2), hS.2.2⟩
  have hPc1 := hs_wl_kept (A1 := fun _ => False) hPc (fun q h1 _ => ho q (by omega)) (fun _ _ h => h)
  clear ho hPc hS
  refine lv_dup hx hb dL_law_11 rfl ?_
  refine hs_callI (As := []) (rest := [.ref (hs_ad b1 (b1 + 1) 0)]) G hAO hml (r_init l D cy b1 (b1 + 1) (by omega)) gL_law_X4_init rfl rfl rfl (by decide +kernel) (by decide +kernel) (by decide +kernel) rfl (n := 0) (by decide +kernel) ⟨Nat.le_of_ble_eq_true rfl, Nat.le_of_ble_eq_true rfl⟩ rfl hl.1 (Nat.le_of_ble_eq_true rfl) ⟨Nat.le_of_ble_eq_true rfl, Nat.le_of_ble_eq_true rfl⟩ hPm hz hS1 (fun q hq => by rcases hq with h | h <;> omega) rfl dL_law_12 (fun H2 locs2 hPm hS2 _ hk2 => ?_)
  have hPc2 := hs_wl_kept hPc1 hk2 (fun j hj h => by
    have h3 : hs_ad b0 (b0 + 1) j < b0 + 65 := hs_ad_lt hj
    rcases h with h | h <;> omega)
  rw [hm_born] at hPm
  have hPc2 := hc_born hPc2
  refine lv_astore_n hx hb dL_law_15 rfl hl (by decide) rfl (fun ls hl => ?_)
  refine lv_iconst (v := 0) hx hb dL_law_16 (by decide) ?_
  refine lv_istore_n hx hb dL_law_17 rfl hl (by decide) rfl (fun ls hl => ?_)
  refine law_loop G hml hr hlocks hX hbl (hk_ok (by omega)) (hm_born_ok (by omega)) (fun i hi j hj h => ?_) (fun i hi => ?_) (fun j hj => ?_) hL 2049 0 0 HM.z0 rfl (by omega) (by omega) hs_z0_Iv H2 locs2 hPc2 hPm hS2 ls (lv_sub hl [0, 3, 2, 1] rfl)
  · have h3 : hs_ad b0 (b0 + 1) (hk_pi i) < b0 + 65 := hs_ad_lt (hk_pi_lt hi)
    have h4 : b1 ≤ hs_ad b1 (b1 + 1) j := hs_ad_le j
    have h5 : hs_ad b0 (b0 + 1) (hk_pi i) = hs_ad b1 (b1 + 1) j := h
    omega
  · have h3 : b0 ≤ hs_ad b0 (b0 + 1) (hk_pi i) := hs_ad_le _
    show s.heap.size ≤ hs_ad b0 (b0 + 1) (hk_pi i)
    omega
  · have h4 : b1 ≤ hs_ad b1 (b1 + 1) j := hs_ad_le j
    omega

/-! ===== calls of constructors ===== -/
section HSY
variable {p : Program} {l : Launch} {e : Env} {R : Room} {s : State} {m : MethodId} {args : Array Value} {below : List Frame} {meth : Method} {c : Code} {H H0 : Heap} {locs : List Loc} {cells slots : Nat} {Q : State → Prop}
variable {cc bytes : ByteArray} {pc nL maxL index n mc ms hz : Nat} {ls : Array Slot} {rest As : List Value} {D : va_G} {cy : Nat → ClassId} {Ts ws ws' : List Cond} {own : String} {A A1 : Nat → Prop} {mem mem' : va_W} {rm : Room} {y : MethodName} {b : Nat}
theorem hs_afterC {st0 : List Value} {aa : Array Value} (hr : va_Run p l e R s m args below meth c H locs cells slots mc ms (F0 m pc ls st0) rest (hs_PostC D mem' A1 aa) A1) (hS : va_S A H0 H locs) (hA : ∀ q, A1 q → A q)
    (kk : ∀ (H1 : Heap) (locs1 : List Loc), va_P D vwCl mem' H1 → va_S A H0 H1 locs1 → H.size ≤ H1.size → (∀ q : Nat, q < H.size → ¬ A1 q → H1[q]? = H[q]?) → W p l e R s m args below meth c H1 locs1 (cells + mc) (slots + ms) Q (F0 m (pc + 3) ls rest)) : W p l e R s m args below meth c H locs cells slots Q (F0 m pc ls st0) := by
  intro T hT X
  obtain ⟨v, st₀, t, T', L, h0, X', hL, e1, e2, ⟨hv, hp, hz, hk⟩, st⟩ := hr T hT X
  cases hv
  rw [h0] at hz hk
  obtain ⟨t2, a1, b1⟩ := kk T'.heap (locs ++ L) (by rw [e1]; exact hp)
    ⟨Nat.le_trans hS.1 (by rw [e1]; exact hz), fun q h1 h2 => by rw [e1, hk q (Nat.lt_of_lt_of_le h1 hS.1) (fun z => h2 (hA q z))]; exact hS.2.1 q h1 h2, fun q hq => by
      rcases List.mem_append.mp hq with h | h
      · exact hS.2.2 q h
      · exact hA _ (hL q h)⟩ (by rw [e1]; exact hz) (fun q h1 h2 => by rw [e1]; exact hk q h1 h2) T' rfl X'
  exact ⟨t2, st t2 a1, b1⟩
theorem hs_preC (G : hs_C p s m c cc args Ts own D cy) (hAO : hs_AO s) (hP : va_P D vwCl mem H) (hH : H.size = hz) (av : List Value) : ∀ U : State, U.heap = H → s.WarmedH U.vm → hs_PreC D cy av mem hz av.toArray U := fun U hU hW =>
  ⟨rfl, va_K.moved hW.alike G.2.2.2.2.1, hs_NW.warm hW G.2.2.2.2.2, hAO.moved hW.alike, by rw [hU]; exact hP, by rw [hU]; exact hH⟩
/-- a nest mate's constructor -/
theorem hs_callC (G : hs_C p s m c cc args Ts own D cy) (hAO : hs_AO s) (hml : c.maxLocals = nL) (hC : Cc l y ws rm D cy A1 (.ref b :: As) mem hz mem' mc ms) (hg : GoodIn Ts ws) (hw : ws = Cond.code y bytes maxL none :: ws') (hrc : rm.cells = mc) (hrs : rm.slots = ms)
    (hlk : (own, index, y, "HlcStore") ∈ hs_nm) (hini : Cond.initialized y.cls ∈ Ts) (hinst : Cond.instanceMethod y ∈ Ts) (hyn : y.name = "<init>")
    (hd : y.cls ≠ "java/lang/invoke/MethodHandle" ∧ y.cls ≠ "java/lang/invoke/VarHandle" ∧ (parseMethodDescriptor y.desc).map (fun d => d.parameters.length) = some n) (hR : rm.frames + 1 ≤ R.frames ∧ 8 + (maxL + 11) + rm.locals ≤ R.locals)
    (hn : As.length = n) (hsize : ls.size = nL) (hst : (rest.map fun v => v.category).sum ≤ 8) (hf : cells + mc ≤ R.cells ∧ slots + ms ≤ R.slots)
    (hP : va_P D vwCl mem H) (hH : H.size = hz) (hS : va_S A H0 H locs) (hA : ∀ q, A1 q → A q) {st : List Value} (hstk : st = As.reverse ++ .ref b :: rest) (hdg : decode cc pc = .ok (.invokespecial index, 3))
    (kk : ∀ (H1 : Heap) (locs1 : List Loc), va_P D vwCl mem' H1 → va_S A H0 H1 locs1 → H.size ≤ H1.size → (∀ q : Nat, q < H.size → ¬ A1 q → H1[q]? = H[q]?) → W p l e R s m args below meth c H1 locs1 (cells + mc) (slots + ms) Q (F0 m (pc + 3) ls rest)) : W p l e R s m args below meth c H locs cells slots Q (F0 m pc ls st) :=
  hs_afterC (va_runIN (As := As) (rest := rest) (b := b) (host := "HlcStore") ⟨G.1, G.2.1, hml, G.2.2.2.1, G.2.2.1⟩ hC ⟨va_cnB n G.2.2.1 hg hw hrc hrs (G.2.2.2.2.2.2 _ hlk) (G.2.2.1 _ hini) hd hR, hyn, G.2.2.1 _ hinst⟩ ⟨hs_blindC, hs_preC G hAO hP hH _⟩ rfl hn hsize hstk (lv_room hst) hdg hf) hS hA kk
/-- a constructor by the law -/
theorem hs_callI (G : hs_C p s m c cc args Ts own D cy) (hAO : hs_AO s) (hml : c.maxLocals = nL) (hC : Cc l y ws rm D cy A1 (.ref b :: As) mem hz mem' mc ms) (hg : GoodIn Ts ws) (hw : ws = Cond.code y bytes maxL none :: ws') (hrc : rm.cells = mc) (hrs : rm.slots = ms)
    (hlk : Cond.methodLink own index y ∈ Ts) (hini : Cond.initialized y.cls ∈ Ts) (hinst : Cond.instanceMethod y ∈ Ts) (hyn : y.name = "<init>")
    (hd : y.cls ≠ "java/lang/invoke/MethodHandle" ∧ y.cls ≠ "java/lang/invoke/VarHandle" ∧ (parseMethodDescriptor y.desc).map (fun d => d.parameters.length) = some n) (hR : rm.frames + 1 ≤ R.frames ∧ 8 + (maxL + 11) + rm.locals ≤ R.locals)
    (hn : As.length = n) (hsize : ls.size = nL) (hst : (rest.map fun v => v.category).sum ≤ 8) (hf : cells + mc ≤ R.cells ∧ slots + ms ≤ R.slots)
    (hP : va_P D vwCl mem H) (hH : H.size = hz) (hS : va_S A H0 H locs) (hA : ∀ q, A1 q → A q) {st : List Value} (hstk : st = As.reverse ++ .ref b :: rest) (hdg : decode cc pc = .ok (.invokespecial index, 3))
    (kk : ∀ (H1 : Heap) (locs1 : List Loc), va_P D vwCl mem' H1 → va_S A H0 H1 locs1 → H.size ≤ H1.size → (∀ q : Nat, q < H.size → ¬ A1 q → H1[q]? = H[q]?) → W p l e R s m args below meth c H1 locs1 (cells + mc) (slots + ms) Q (F0 m (pc + 3) ls rest)) : W p l e R s m args below meth c H locs cells slots Q (F0 m pc ls st) :=
  hs_afterC (va_runI (As := As) (rest := rest) (b := b) ⟨G.1, G.2.1, hml, G.2.2.2.1, G.2.2.1⟩ hC ⟨callB_of n G.2.2.1 hg hw hrc hrs (G.2.2.1 _ hini) (G.2.2.1 _ hlk) hd hR, hyn, G.2.2.1 _ hinst⟩ ⟨hs_blindC, hs_preC G hAO hP hH _⟩ rfl hn hsize hstk (lv_room hst) hdg hf) hS hA kk
end HSY
/-! ===== the class's cells in the order in which they are made ===== -/
def hk_key (b0 sz i : Nat) : List Value := [.int (hs_bit i), .ref (hs_ad b0 sz (2 + i % 4)), .ref (hs_ad b0 sz (8 + 3 * i)), .ref (hs_ad b0 sz (9 + 3 * i)), .int 0, .long 0, .null, .int 0]
def hk_tx (b0 sz : Nat) : List Value := [.int 0, .ref (hs_ad b0 sz 2), .int 0, .int 0, .long 0, .long 0, .long 0, .int 0, .int 0]
def hk_re (n : Nat) (g : Nat → Nat) : Nat → Option Nat := fun i => if i < n then some (g i) else none
def hk (b0 sz : Nat) (cy : Nat → ClassId) (S : List Value) (na nb nc j : Nat) : va_E :=
  if j = 0 then .inr (3, S)
  else if j = 1 then .inl (cy 3, 4, .inr (.inr (.inr (.inr (hk_re na (fun i => hs_ad b0 sz (2 + i)))))))
  else if j < 6 then .inr (1, [.int 0, .long 0])
  else if j = 6 then .inl (cy 4, 16, .inr (.inr (.inr (.inr (hk_re nb (fun i => hs_ad b0 sz (7 + 3 * i)))))))
  else if j < 55 then (if (j - 7) % 3 = 0 then .inr (0, hk_key b0 sz ((j - 7) / 3)) else if (j - 7) % 3 = 1 then .inl (cy 1, 16, .inr (.inl (fun _ => 0))) else .inl (cy 0, 16, .inl (fun _ => 0)))
  else if j = 55 then .inl (cy 5, 8, .inr (.inr (.inr (.inr (hk_re nc (fun i => hs_ad b0 sz (56 + i)))))))
  else if j < 64 then .inr (2, hk_tx b0 sz)
  else .inl (cy 1, 256, .inr (.inl (fun _ => 0)))
theorem hk_re_0 (g : Nat → Nat) : hk_re 0 g = fun _ => none := by funext i; simp [hk_re]
theorem hk_re_s (n : Nat) (g : Nat → Nat) : va_up (hk_re n g) n (some (g n)) = hk_re (n + 1) g := by
  funext i
  by_cases e : i = n
  · subst e; rw [va_up_self]; simp [hk_re]
  · rw [va_up_ne _ _ e]
    unfold hk_re
    by_cases q : i < n
    · simp [q, show i < n + 1 by omega]
    · simp [q, show ¬ i < n + 1 by omega]
section HKL
variable {b0 sz : Nat} {cy : Nat → ClassId} {S : List Value} {na nb nc : Nat}
theorem hk_0 : hk b0 sz cy S na nb nc 0 = .inr (3, S) := rfl
theorem hk_1 : hk b0 sz cy S na nb nc 1 = .inl (cy 3, 4, .inr (.inr (.inr (.inr (hk_re na (fun i => hs_ad b0 sz (2 + i))))))) := rfl
theorem hk_n {i : Nat} (h : i < 4) : hk b0 sz cy S na nb nc (2 + i) = .inr (1, [.int 0, .long 0]) := by
  unfold hk; rw [if_neg (by omega), if_neg (by omega), if_pos (by omega)]
theorem hk_6 : hk b0 sz cy S na nb nc 6 = .inl (cy 4, 16, .inr (.inr (.inr (.inr (hk_re nb (fun i => hs_ad b0 sz (7 + 3 * i))))))) := rfl
theorem hk_k {i : Nat} (h : i < 16) : hk b0 sz cy S na nb nc (7 + 3 * i) = .inr (0, hk_key b0 sz i) := by
  unfold hk; rw [if_neg (by omega), if_neg (by omega), if_neg (by omega), if_neg (by omega), if_pos (by omega), if_pos (by omega), show (7 + 3 * i - 7) / 3 = i by omega]
theorem hk_st {i : Nat} (h : i < 16) : hk b0 sz cy S na nb nc (8 + 3 * i) = .inl (cy 1, 16, .inr (.inl (fun _ => 0))) := by
  unfold hk; rw [if_neg (by omega), if_neg (by omega), if_neg (by omega), if_neg (by omega), if_pos (by omega), if_neg (by omega), if_pos (by omega)]
theorem hk_va {i : Nat} (h : i < 16) : hk b0 sz cy S na nb nc (9 + 3 * i) = .inl (cy 0, 16, .inl (fun _ => 0)) := by
  unfold hk; rw [if_neg (by omega), if_neg (by omega), if_neg (by omega), if_neg (by omega), if_pos (by omega), if_neg (by omega), if_neg (by omega)]
theorem hk_55 : hk b0 sz cy S na nb nc 55 = .inl (cy 5, 8, .inr (.inr (.inr (.inr (hk_re nc (fun i => hs_ad b0 sz (56 + i))))))) := by
  unfold hk; rw [if_neg (by omega), if_neg (by omega), if_neg (by omega), if_neg (by omega), if_neg (by omega), if_pos rfl]
theorem hk_t {i : Nat} (h : i < 8) : hk b0 sz cy S na nb nc (56 + i) = .inr (2, hk_tx b0 sz) := by
  unfold hk; rw [if_neg (by omega), if_neg (by omega), if_neg (by omega), if_neg (by omega), if_neg (by omega), if_neg (by omega), if_pos (by omega)]
theorem hk_64 : hk b0 sz cy S na nb nc 64 = .inl (cy 1, 256, .inr (.inl (fun _ => 0))) := by
  unfold hk; rw [if_neg (by omega), if_neg (by omega), if_neg (by omega), if_neg (by omega), if_neg (by omega), if_neg (by omega), if_neg (by omega)]
theorem hk_S {S' : List Value} : va_up (hk b0 sz cy S na nb nc) 0 (.inr (3, S')) = hk b0 sz cy S' na nb nc := by
  funext j
  by_cases e : j = 0
  · subst e; rfl
  · rw [va_up_ne _ _ e]; unfold hk; rw [if_neg e, if_neg e]
theorem hk_ua : va_up (hk b0 sz cy S na nb nc) 1 (.inl (cy 3, 4, .inr (.inr (.inr (.inr (va_up (hk_re na (fun i => hs_ad b0 sz (2 + i))) na (some (hs_ad b0 sz (2 + na))))))))) = hk b0 sz cy S (na + 1) nb nc := by
  rw [hk_re_s na (fun i => hs_ad b0 sz (2 + i))]
  funext j
  by_cases e : j = 1
  · subst e; rfl
  · rw [va_up_ne _ _ e]; unfold hk; rw [if_neg e, if_neg e]
theorem hk_ub : va_up (hk b0 sz cy S na nb nc) 6 (.inl (cy 4, 16, .inr (.inr (.inr (.inr (va_up (hk_re nb (fun i => hs_ad b0 sz (7 + 3 * i))) nb (some (hs_ad b0 sz (7 + 3 * nb))))))))) = hk b0 sz cy S na (nb + 1) nc := by
  rw [hk_re_s nb (fun i => hs_ad b0 sz (7 + 3 * i))]
  funext j
  by_cases e : j = 6
  · subst e; rfl
  · rw [va_up_ne _ _ e]; unfold hk; rw [if_neg e, if_neg e]
theorem hk_uc : va_up (hk b0 sz cy S na nb nc) 55 (.inl (cy 5, 8, .inr (.inr (.inr (.inr (va_up (hk_re nc (fun i => hs_ad b0 sz (56 + i))) nc (some (hs_ad b0 sz (56 + nc))))))))) = hk b0 sz cy S na nb (nc + 1) := by
  rw [hk_re_s nc (fun i => hs_ad b0 sz (56 + i))]
  funext j
  by_cases e : j = 55
  · subst e; rw [va_up_self, hk_55]
  · rw [va_up_ne _ _ e]; unfold hk; rw [if_neg e, if_neg e]
end HKL
/-- the order of hc_mem in that of making -/
def hk_pi (j : Nat) : Nat := if j = 0 then 0 else if j = 1 then 1 else if j = 2 then 6 else if j = 3 then 55 else if j = 4 then 64 else if j < 9 then 2 + (j - 5) else if j < 25 then 7 + 3 * (j - 9) else if j < 41 then 8 + 3 * (j - 25) else if j < 57 then 9 + 3 * (j - 41) else 56 + (j - 57)
def hk_ad (b0 sz j : Nat) : Nat := hs_ad b0 sz (hk_pi j)
theorem hk_pi_lt {j : Nat} (h : j < 65) : hk_pi j < 65 := by
  unfold hk_pi; split <;> (try omega); split <;> (try omega); split <;> (try omega); split <;> (try omega); split <;> (try omega); split <;> (try omega); split <;> (try omega); split <;> (try omega); split <;> omega
def hk_pv (j : Nat) : Nat := if j = 0 then 0 else if j = 1 then 1 else if j < 6 then 5 + (j - 2) else if j = 6 then 2 else if j < 55 then (if (j - 7) % 3 = 0 then 9 + (j - 7) / 3 else if (j - 7) % 3 = 1 then 25 + (j - 7) / 3 else 41 + (j - 7) / 3) else if j = 55 then 3 else if j < 64 then 57 + (j - 56) else 4
theorem hk_pv_pi : ∀ j, j < 65 → hk_pv (hk_pi j) = j := by decide
theorem hk_ok {b0 sz : Nat} (hb0 : b0 < sz) : hc_ok (hk_ad b0 sz) := fun i hi j hj h => by
  have h1 : hk_pi i = hk_pi j := hs_ad_inj hb0 h
  rw [← hk_pv_pi i hi, ← hk_pv_pi j hj, h1]
def hk_S4 (b0 sz : Nat) : List Value := [.ref (hs_ad b0 sz 1), .ref (hs_ad b0 sz 6), .ref (hs_ad b0 sz 55), .ref (hs_ad b0 sz 64), .int 0, .int 0]

/-! ===== constructors: a world that grows at the heap's end ===== -/
def hs_ad (b0 sz j : Nat) : Nat := if j = 0 then b0 else sz + (j - 1)
def hs_wl (b0 sz : Nat) (f : Nat → va_E) (n : Nat) : va_W := (List.range n).map (fun j => (hs_ad b0 sz j, f j))
def hs_CA (b0 sz : Nat) : Nat → Prop := fun q => q = b0 ∨ sz ≤ q
def hs_AO (U : State) : Prop := va_AO "HlcStore$Node" U ∧ va_AO "HlcStore$Key" U ∧ va_AO "HlcStore$Transaction" U
theorem hs_AO.moved {u U : State} (hvm : u.vm.Alike U.vm) (h : hs_AO u) : hs_AO U := ⟨h.1.moved hvm, h.2.1.moved hvm, h.2.2.moved hvm⟩
theorem hs_ad_inj {b0 sz : Nat} (hb : b0 < sz) {i j : Nat} (h : hs_ad b0 sz i = hs_ad b0 sz j) : i = j := by
  unfold hs_ad at h
  split at h <;> split at h <;> omega
theorem hs_wl_at {b0 sz : Nat} {f : Nat → va_E} {n j : Nat} (h : j < n) : (hs_wl b0 sz f n)[j]? = some (hs_ad b0 sz j, f j) := hs_rm h
theorem hs_wl_set {b0 sz : Nat} {f : Nat → va_E} {n j : Nat} {e : va_E} : (hs_wl b0 sz f n).set j (hs_ad b0 sz j, e) = hs_wl b0 sz (va_up f j e) n := hs_rset1
theorem hs_wl_key {b0 sz : Nat} {f : Nat → va_E} {n k : Nat} {q : Nat × va_E} (h : (hs_wl b0 sz f n)[k]? = some q) : k < n ∧ q = (hs_ad b0 sz k, f k) := by
  by_cases hk : k < n
  · rw [hs_wl_at hk] at h; cases h; exact ⟨hk, rfl⟩
  · simp [hs_wl, hk] at h
theorem hs_wl_D {b0 sz : Nat} (hb : b0 < sz) (f : Nat → va_E) (n : Nat) : va_D (hs_CA b0 sz) (hs_wl b0 sz f n) := by
  refine ⟨fun i j p q hp hq e => ?_, fun k q h => ?_⟩
  · rw [(hs_wl_key hp).2, (hs_wl_key hq).2] at e
    exact hs_ad_inj hb e
  · rw [(hs_wl_key h).2]
    show hs_ad b0 sz k = b0 ∨ sz ≤ hs_ad b0 sz k
    unfold hs_ad
    split
    · exact Or.inl rfl
    · exact Or.inr (by omega)
theorem hs_wl_push {D : va_G} {b0 sz : Nat} {f : Nat → va_E} {n : Nat} {H H1 : Heap} (hP : va_P D vwCl (hs_wl b0 sz f n) H) (ho : ∀ q : Nat, q < H.size → H1[q]? = H[q]?) (hn : va_at D vwCl (hs_ad b0 sz n, f n) H1) : va_P D vwCl (hs_wl b0 sz f (n + 1)) H1 := by
  intro k q hq
  obtain ⟨h1, rfl⟩ := hs_wl_key hq
  by_cases e : k = n
  · subst e; exact hn
  · have h2 := hP k _ (hs_wl_at (show k < n by omega))
    exact h2.kept (ho _ h2.lt)
theorem hs_wl_congr {D : va_G} {b0 sz : Nat} {f g : Nat → va_E} {n : Nat} {H : Heap} (hP : va_P D vwCl (hs_wl b0 sz f n) H) (h : ∀ j, j < n → f j = g j) : va_P D vwCl (hs_wl b0 sz g n) H := by
  have e : hs_wl b0 sz g n = hs_wl b0 sz f n := by
    unfold hs_wl
    apply List.map_congr_left
    intro j hj
    rw [h j (List.mem_range.mp hj)]
  rw [e]; exact hP
def hs_PreC (D : va_G) (cy : Nat → ClassId) (av : List Value) (mem : va_W) (hz : Nat) : Array Value → State → Prop := va_Pc av (fun U => va_K D vwCl (hs_tys cy) U ∧ hs_NW U ∧ hs_AO U ∧ va_P D vwCl mem U.heap ∧ U.heap.size = hz)
def hs_PostC (D : va_G) (mem' : va_W) (A : Nat → Prop) : Array Value → State → Outcome → State → Prop := fun _ st oc t => oc = .returned none ∧ va_P D vwCl mem' t.heap ∧ va_F A st t
/-- a constructor's contract -/
def Cc (l : Launch) (y : MethodName) (ws : List Cond) (rm : Room) (D : va_G) (cy : Nat → ClassId) (A : Nat → Prop) (av : List Value) (mem : va_W) (hz : Nat) (mem' : va_W) (mc ms : Nat) : Prop :=
  Met l y ws rm (hs_PreC D cy av mem hz) (hs_PostC D mem' A) mc ms A
theorem hs_blindC {D : va_G} {cy : Nat → ClassId} {av : List Value} {mem : va_W} {hz : Nat} : FrameBlind (hs_PreC D cy av mem hz) := fun a U g mk q => by
  obtain ⟨q0, qK, qN, qA, qP⟩ := q
  exact ⟨q0, va_K.moved (u := U) (U := U.calling g mk a) (Vm.Alike.refl U.vm) qK, hs_NW.same (u := U) (U := U.calling g mk a) rfl qN, hs_AO.moved (u := U) (U := U.calling g mk a) (Vm.Alike.refl U.vm) qA, qP⟩
theorem cc_of {l : Launch} {y : MethodName} {ws ws' : List Cond} {rm : Room} {D : va_G} {cy : Nat → ClassId} {A : Nat → Prop} {av : List Value} {mem mem' : va_W} {hz mc ms : Nat} {cc : ByteArray} {maxL : Nat} {ret : Option FieldType}
    (hw : ws = Cond.code y cc maxL ret :: ws') (hy : plainName y.cls = true) (hlen : (lg_sl av).length ≤ maxL)
    (body : ∀ (p : Program) (e : Env) (s : State) (m : MethodId) (below : List Frame) (meth : Method) (c : Code) (ls : Array Slot), hs_C p s m c cc av.toArray ws y.cls D cy → hs_AO s → meth.name = y.name → p.tables.exec = Jvm.exec → c.code = cc → c.maxLocals = maxL → meth.sig.returnType = ret → meth.locks = false → va_P D vwCl mem s.heap → s.heap.size = hz → va_S A s.heap s.heap [] → lv_has ls maxL (lv_args 0 av) →
      W p l e rm s m av.toArray below meth c s.heap [] 0 0 (MQ below (hs_PostC D mem' A) av.toArray s mc ms A) (F0 m 0 ls [])) : Cc l y ws rm D cy A av mem hz mem' mc ms := by
  refine Met.ofW (cc := cc) (maxL := maxL) (ret := ret) hy hw ?_
  intro p e s m args below meth c s₁ B hml hv
  obtain ⟨rfl, hK, hN, hA, hP, hsz⟩ := hv
  have hts := atoms_spec (ws := ws) B.pre
  rw [lg_entry_eq]
  exact body p e s m below meth c _ ⟨B.exec, B.bytes, hts, findClass_of_methodNamed B.named, hK, hN⟩ hA (name_of_methodNamed B.named B.method).1 B.exec B.bytes hml B.returns B.notSynchronized hP hsz va_S.rf (lv_entry av hlen)
section HSX
variable {p : Program} {l : Launch} {e : Env} {R : Room} {s : State} {m : MethodId} {args : Array Value} {below : List Frame} {meth : Method} {c : Code} {H H0 : Heap} {locs : List Loc} {cells slots : Nat} {Q : State → Prop}
variable {cc : ByteArray} {pc : Nat} {ls : Array Slot} {rest : List Value} {D : va_G} {cy : Nat → ClassId} {Ts : List Cond} {own : String} {b0 sz n : Nat} {f : Nat → va_E} {A : Nat → Prop} {mem' : va_W} {mc ms : Nat}
theorem cc_ret (hx : p.tables.exec = Jvm.exec) (hb : c.code = cc) (hr : meth.sig.returnType = none) (hlocks : meth.locks = false) (hP : va_P D vwCl mem' H) (hS : va_S A s.heap H locs) (h1 : cells ≤ mc) (h2 : slots ≤ ms) (hdg : decode cc pc = .ok (.return_, 1)) : W p l e R s m args below meth c H locs cells slots (MQ below (hs_PostC D mem' A) args s mc ms A) (F0 m pc ls []) :=
  W.widen (k := mc) (n := ms) h1 h2 (W.vret hx hb hr (fun t ht _ => ⟨rfl, by rw [ht]; exact hP, hS.F ht⟩) hS.2.2 hdg hlocks)
/-- the super call -/
theorem hs_super (G : hs_C p s m c cc args Ts own D cy) (hml : c.maxLocals = ls.size) {idx : Nat} (hl : Cond.methodLink own idx Lib.objectInit ∈ Ts) (hi : Cond.instanceMethod Lib.objectInit ∈ Ts) (hcd : Cond.code Lib.objectInit ⟨#[0xb1]⟩ 1 none ∈ Ts) {a : Nat} (hfr : 1 ≤ R.frames) (hlo : 12 ≤ R.locals) (hdg : decode cc pc = .ok (.invokespecial idx, 3))
    (kk : W p l e R s m args below meth c H locs cells slots Q (F0 m (pc + 3) ls [])) : W p l e R s m args below meth c H locs cells slots Q (F0 m pc ls [.ref a]) :=
  W.objInit G.1 G.2.1 G.2.2.2.1 (G.2.2.1 _ hl) (G.2.2.1 _ hi) (G.2.2.1 _ hcd) (g := F0 m pc ls [.ref a]) rfl (by rw [hml]) (a := a) (rest := []) rfl hdg hfr (by show 2 * 0 + 0 + 12 ≤ _; omega) kk
theorem W.sized (k : H.size ≤ s.heap.size + cells → W p l e R s m args below meth c H locs cells slots Q (F0 m pc ls rest)) : W p l e R s m args below meth c H locs cells slots Q (F0 m pc ls rest) := fun T hT X => k (by rw [← hT]; exact X.same.2.2.1) T hT X
theorem hs_wl_low {n0 : Nat} (hP : va_P D vwCl (hs_wl b0 sz f n) H) (hS : va_S A s.heap H locs) (hsz : s.heap.size + 1 = sz + n0) (hn0 : 1 ≤ n0) (hn : n0 ≤ n) : sz + n ≤ H.size + 1 := by
  by_cases e : n = n0
  · have := hS.1; omega
  · have h := (hP (n - 1) _ (hs_wl_at (by omega))).lt
    have h2 : hs_ad b0 sz (n - 1) < H.size := h
    unfold hs_ad at h2
    rw [if_neg (by omega)] at h2
    omega
theorem hs_S_push (hS : va_S (hs_CA b0 sz) s.heap H locs) {H1 : Heap} (z1 : H1.size = H.size + 1) (o1 : ∀ q : Nat, q < H.size → H1[q]? = H[q]?) : va_S (hs_CA b0 sz) s.heap H1 locs :=
  ⟨Nat.le_trans hS.1 (by omega), fun q h1 h2 => (o1 q (Nat.lt_of_lt_of_le h1 hS.1)).trans (hS.2.1 q h1 h2), hS.2.2⟩
theorem hs_newA (G : hs_C p s m c cc args Ts own D cy) {atype : ArrayType} {ty : FieldType} (hty : newarray.typeOf atype = ty) (harr : Cond.arrayClass ty ∈ Ts) (t0 : Nat) (ht : (hs_tys cy)[t0]? = some (cy t0, ty)) (hra : ∀ (U : State) (k : ClassId), va_RA U k ty → U.vm.findClass ("[" ++ ty.toString) = some k)
    (hP : va_P D vwCl (hs_wl b0 sz f n) H) {n0 : Nat} (hcn : cells + n0 = n) (hn0 : 1 ≤ n0) (hsz : s.heap.size + 1 = sz + n0) (hS : va_S (hs_CA b0 sz) s.heap H locs) (N : Nat) (a0 : vp_A) (ha : ∀ cA : ClassId, vp_cell cA a0 = arrV cA N (fun _ => defaultValue ty)) (hf : f n = .inl (cy t0, a0)) {k : Int32} (hk0 : ¬ k < 0) (hkN : k.toNatClampNeg = N) (hbytes : N * componentBytes ty ≤ 536870912) (hcells : cells + 1 ≤ R.cells) (hslots : slots + N ≤ R.slots) (hdg : decode cc pc = .ok (.newarray atype, 2))
    (kk : ∀ (H1 : Heap), va_P D vwCl (hs_wl b0 sz f (n + 1)) H1 → va_S (hs_CA b0 sz) s.heap H1 locs → W p l e R s m args below meth c H1 locs (cells + 1) (slots + N) Q (F0 m (pc + 2) ls (.ref (hs_ad b0 sz n) :: rest))) : W p l e R s m args below meth c H locs cells slots Q (F0 m pc ls (.int k :: rest)) := by
  subst hty
  refine W.sized fun hup => ?_
  have hlow := hs_wl_low hP hS hsz hn0 (by omega)
  have hsize : H.size = hs_ad b0 sz n := by unfold hs_ad; rw [if_neg (by omega)]; omega
  refine va_newaK G.1 G.2.1 (G.2.2.1 _ harr) (g := F0 m pc ls (.int k :: rest)) rfl hdg rfl hk0 hkN hbytes hcells hslots hsize fun H1 cA e1 z1 o1 hAr hNm => ?_
  have hcA : cA = cy t0 := Option.some.inj (hNm.symm.trans (hra _ _ (G.2.2.2.2.1.2 t0 _ ht).2))
  subst hcA
  have o2 : ∀ q : Nat, q < H.size → H1[q]? = H[q]? := fun q hq => o1 q (by rw [← hsize]; exact hq)
  refine kk H1 (hs_wl_push hP o2 ?_) (hs_S_push hS (by rw [z1, hsize]) o2)
  rw [hf]
  show H1[hs_ad b0 sz n]? = some (vp_cell _ _)
  rw [ha]; exact e1
theorem hs_newR (G : hs_C p s m c cc args Ts own D cy) {C : String} {index : Nat} (hcl : Cond.classLink own index C ∈ Ts) (hAO : va_AO C s) (t0 : Nat) (ht : (hs_tys cy)[t0]? = some (cy t0, .object C))
    (hP : va_P D vwCl (hs_wl b0 sz f n) H) {n0 : Nat} (hcn : cells + n0 = n) (hn0 : 1 ≤ n0) (hsz : s.heap.size + 1 = sz + n0) (hS : va_S (hs_CA b0 sz) s.heap H locs) (N : Nat) (hf : f n = .inl (cy t0, N, .inr (.inr (.inr (.inr (fun _ => none)))))) {k : Int32} (hk0 : ¬ k < 0) (hkN : k.toNatClampNeg = N) (hbytes : N * 4 ≤ 536870912) (hcells : cells + 1 ≤ R.cells) (hslots : slots + N ≤ R.slots) (hdg : decode cc pc = .ok (.anewarray index, 3))
    (kk : ∀ (H1 : Heap), va_P D vwCl (hs_wl b0 sz f (n + 1)) H1 → va_S (hs_CA b0 sz) s.heap H1 locs → W p l e R s m args below meth c H1 locs (cells + 1) (slots + N) Q (F0 m (pc + 3) ls (.ref (hs_ad b0 sz n) :: rest))) : W p l e R s m args below meth c H locs cells slots Q (F0 m pc ls (.int k :: rest)) := by
  refine W.sized fun hup => ?_
  have hlow := hs_wl_low hP hS hsz hn0 (by omega)
  have hsize : H.size = hs_ad b0 sz n := by unfold hs_ad; rw [if_neg (by omega)]; omega
  subst hkN
  refine W.anew G.1 G.2.1 G.2.2.2.1 (G.2.2.1 _ hcl) (va_AO.use hAO) (g := F0 m pc ls (.int k :: rest)) rfl hdg rfl hk0 hbytes hcells hslots fun cA kA comp f1 f2 f3 f4 => ?_
  obtain ⟨kB, cB, g1, g2, g3, g4⟩ := (G.2.2.2.2.1.2 t0 _ ht).2
  have hcA : cA = cy t0 := Option.some.inj (f1.symm.trans g4)
  subst hcA
  generalize hH1 : H.push ({ cls := cy t0, slots := Array.replicate k.toNatClampNeg .null, vm := .none } : Cell) = H1
  have z1 : H1.size = H.size + 1 := by rw [← hH1, Array.size_push]
  have e1 : H1[H.size]? = some (arrV (cy t0) k.toNatClampNeg (fun _ => .null)) := by rw [← hH1, Array.getElem?_push_size, ← arrV_new]
  have o1 : ∀ q : Nat, q < H.size → H1[q]? = H[q]? := fun q hq => by rw [← hH1, Array.getElem?_push, if_neg (Nat.ne_of_lt hq)]
  rw [hsize]
  refine kk H1 (hs_wl_push hP o1 ?_) (hs_S_push hS z1 o1)
  rw [hf]
  show H1[hs_ad b0 sz n]? = some (vp_cell _ _)
  rw [vp_cell_q, ← hsize]
  exact e1
theorem hs_newO (G : hs_C p s m c cc args Ts own D cy) {C : String} {T : u_T} {N ci index : Nat} (hin : ∀ w ∈ u_ws C T N, w ∈ Ts) (ty : Nat → FieldType) (hty : ∀ k, k < N → parseFieldDescriptor (T k).2.2.1 = some (ty k)) (hcl : Cond.classLink own index C ∈ Ts) (hinst : Cond.instantiable C N ∈ Ts) (hini : Cond.initialized C ∈ Ts) (hc : vwCl[ci]? = some (C, T, N))
    (hP : va_P D vwCl (hs_wl b0 sz f n) H) {n0 : Nat} (hcn : cells + n0 = n) (hn0 : 1 ≤ n0) (hsz : s.heap.size + 1 = sz + n0) (hS : va_S (hs_CA b0 sz) s.heap H locs) {fs : List Value} (hfs : ∀ j, j < N → defaultValue (ty j) = vp_V fs j) (hf : f n = .inr (ci, fs)) (hcells : cells + 1 ≤ R.cells) (hslots : slots + N ≤ R.slots) (hdg : decode cc pc = .ok (.new index, 3))
    (kk : ∀ (H1 : Heap), va_P D vwCl (hs_wl b0 sz f (n + 1)) H1 → va_S (hs_CA b0 sz) s.heap H1 locs → W p l e R s m args below meth c H1 locs (cells + 1) (slots + N) Q (F0 m (pc + 3) ls (.ref (hs_ad b0 sz n) :: rest))) : W p l e R s m args below meth c H locs cells slots Q (F0 m pc ls rest) := by
  refine W.sized fun hup => ?_
  have hlow := hs_wl_low hP hS hsz hn0 (by omega)
  have hsize : H.size = hs_ad b0 sz n := by unfold hs_ad; rw [if_neg (by omega)]; omega
  have hKn := G.2.2.2.2.1.1 ci _ hc
  refine W.newcK G.1 G.2.1 G.2.2.2.1 (G.2.2.1 _ hcl) (G.2.2.1 _ hinst) (G.2.2.1 _ hini) (g := F0 m pc ls rest) rfl hdg hcells hslots hKn.2.1 hsize fun H1 kC hkC e1 z1 o1 => ?_
  have o2 : ∀ q : Nat, q < H.size → H1[q]? = H[q]? := fun q hq => o1 q (by rw [← hsize]; exact hq)
  refine kk H1 (hs_wl_push hP o2 ?_) (hs_S_push hS (by rw [z1, hsize]) o2)
  rw [hf]
  exact ⟨_, hc, (u_born ty G.2.2.1 hin hKn hkC e1 hty).to hfs⟩
/-- a final field is set in a constructor -/
theorem hs_putF (hb0 : b0 < sz) (G : hs_C p s m c cc args Ts own D cy) {C : String} {T : u_T} {N ci index : Nat} (hin : ∀ w ∈ u_ws C T N, w ∈ Ts) (ty : Nat → FieldType) (hty : ∀ k, k < N → parseFieldDescriptor (T k).2.2.1 = some (ty k)) (hnm : ∀ a, a < N → ∀ b, b < N → a ≠ b → (T a).2.1 ≠ (T b).2.1) (hc : vwCl[ci]? = some (C, T, N)) (hmn : meth.name = "<init>")
    (hP : va_P D vwCl (hs_wl b0 sz f n) H) (hS : va_S (hs_CA b0 sz) s.heap H locs) (j : Nat) (hj : j < n) {fs : List Value} (hf : f j = .inr (ci, fs)) (k : Nat) (hk : k < N) (hl : Cond.fieldLink own index C (T k).2.1 (T k).2.2.1 ∈ Ts) (hs : (T k).1 = C) (hfin : (T k).2.2.2 = true) (ho : (T k).1 = own) (v : Value) (fty : FieldType) (hd : parseFieldDescriptor (T k).2.2.1 = some fty) (hnr : narrow fty v = v) (hfit : fits fty v = true) (hl2 : k < fs.length) (hdg : decode cc pc = .ok (.putfield index, 3))
    (kk : ∀ (H1 : Heap) (locs1 : List Loc), va_P D vwCl (hs_wl b0 sz (va_up f j (.inr (ci, fs.set k v))) n) H1 → va_S (hs_CA b0 sz) s.heap H1 locs1 → W p l e R s m args below meth c H1 locs1 cells slots Q (F0 m (pc + 3) ls rest)) : W p l e R s m args below meth c H locs cells slots Q (F0 m pc ls (v :: .ref (hs_ad b0 sz j) :: rest)) :=
  va_putF (D := D) (ci := ci) (v := v) (ty := fty) (C := C) (T := T) (N := N) G.1 G.2.1 G.2.2.1 hin ty hty hnm G.2.2.2.1 G.2.2.2.2.1 hP (hs_wl_D hb0 f n) hS j (fs := fs) (by rw [hs_wl_at hj, hf]) hc k hk (G.2.2.1 _ hl) (fun _ h9 => by rw [hs] at h9; exact h9) hfin hmn ho hd hnr hfit hl2 hdg (fun H1 locs1 hP1 _ hS1 => kk H1 locs1 (by rw [← hs_wl_set]; exact hP1) hS1)
/-- a field that isn't final -/
theorem hs_putO (hb0 : b0 < sz) (G : hs_C p s m c cc args Ts own D cy) {C : String} {T : u_T} {N ci index : Nat} (hin : ∀ w ∈ u_ws C T N, w ∈ Ts) (ty : Nat → FieldType) (hty : ∀ k, k < N → parseFieldDescriptor (T k).2.2.1 = some (ty k)) (hnm : ∀ a, a < N → ∀ b, b < N → a ≠ b → (T a).2.1 ≠ (T b).2.1) (hc : vwCl[ci]? = some (C, T, N))
    (hP : va_P D vwCl (hs_wl b0 sz f n) H) (hS : va_S (hs_CA b0 sz) s.heap H locs) (j : Nat) (hj : j < n) {fs : List Value} (hf : f j = .inr (ci, fs)) (k : Nat) (hk : k < N) (hl : Cond.fieldLink own index C (T k).2.1 (T k).2.2.1 ∈ Ts) (hs : (T k).1 = C) (hfin : (T k).2.2.2 = false) (v : Value) (fty : FieldType) (hd : parseFieldDescriptor (T k).2.2.1 = some fty) (hnr : narrow fty v = v) (hfit : fits fty v = true) (hl2 : k < fs.length) (hdg : decode cc pc = .ok (.putfield index, 3))
    (kk : ∀ (H1 : Heap) (locs1 : List Loc), va_P D vwCl (hs_wl b0 sz (va_up f j (.inr (ci, fs.set k v))) n) H1 → va_S (hs_CA b0 sz) s.heap H1 locs1 → W p l e R s m args below meth c H1 locs1 cells slots Q (F0 m (pc + 3) ls rest)) : W p l e R s m args below meth c H locs cells slots Q (F0 m pc ls (v :: .ref (hs_ad b0 sz j) :: rest)) :=
  va_put (D := D) (ci := ci) (v := v) (ty := fty) (C := C) (T := T) (N := N) G.1 G.2.1 G.2.2.1 hin ty hty hnm G.2.2.2.1 G.2.2.2.2.1 hP (hs_wl_D hb0 f n) hS j (fs := fs) (by rw [hs_wl_at hj, hf]) hc k hk (G.2.2.1 _ hl) (fun _ h9 => by rw [hs] at h9; exact h9) hfin hd hnr hfit hl2 hdg (fun H1 locs1 hP1 _ hS1 => kk H1 locs1 (by rw [← hs_wl_set]; exact hP1) hS1)
end HSX

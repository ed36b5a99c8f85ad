/-! ===== a field is set: the picture of the state with that part changed ===== -/
theorem hc_s_rd {ad : Nat → Nat} {cy : Nat → ClassId} {x : HM} {i : Nat} {v : Int32} (hi : i < 4) : (hc_mem ad cy x).set (5 + i) (ad (5 + i), .inr (1, (hc_nodeL x i).set 0 (.int (v)))) = hc_mem ad cy (x.u_rd i v) :=
  hc_set (5 + i) (by rw [hc_c_node hi]; show (Sum.inr (1, [.int (va_up x.rd i v i), .long (x.ck i)]) : va_E) = _; rw [va_up_self]; rfl)
    (fun _ _ _ => rfl) (fun j h => by show ([.int (va_up x.rd i v j), .long (x.ck j)] : List Value) = _; rw [va_up_ne _ _ (by omega)]; rfl) (fun _ _ => rfl) (fun _ _ => rfl) (fun _ _ => rfl) (fun _ _ => rfl)
theorem hc_s_ck {ad : Nat → Nat} {cy : Nat → ClassId} {x : HM} {i : Nat} {v : Int64} (hi : i < 4) : (hc_mem ad cy x).set (5 + i) (ad (5 + i), .inr (1, (hc_nodeL x i).set 1 (.long (v)))) = hc_mem ad cy (x.u_ck i v) :=
  hc_set (5 + i) (by rw [hc_c_node hi]; show (Sum.inr (1, [.int (x.rd i), .long (va_up x.ck i v i)]) : va_E) = _; rw [va_up_self]; rfl)
    (fun _ _ _ => rfl) (fun j h => by show ([.int (x.rd j), .long (va_up x.ck i v j)] : List Value) = _; rw [va_up_ne _ _ (by omega)]; rfl) (fun _ _ => rfl) (fun _ _ => rfl) (fun _ _ => rfl) (fun _ _ => rfl)
theorem hc_s_ph {ad : Nat → Nat} {cy : Nat → ClassId} {x : HM} {i : Nat} {v : Int32} (hi : i < 8) : (hc_mem ad cy x).set (57 + i) (ad (57 + i), .inr (2, (hc_txL ad x i).set 0 (.int (v)))) = hc_mem ad cy (x.u_ph i v) :=
  hc_set (57 + i) (by rw [hc_c_tx]; show (Sum.inr (2, [.int (va_up x.ph i v i), .ref (ad (5 + (x.gt i))), .int (x.bt i), .int (nI (x.bi i)), .long (x.rs i), .long (x.ws i), .long (x.lm i), .int (hs_mask (x.se i)), .int (x.hu i)]) : va_E) = _; rw [va_up_self]; rfl)
    (fun _ _ _ => rfl) (fun _ _ => rfl) (fun _ _ => rfl) (fun _ _ => rfl) (fun _ _ => rfl) (fun j h => by show ([.int (va_up x.ph i v j), .ref (ad (5 + (x.gt j))), .int (x.bt j), .int (nI (x.bi j)), .long (x.rs j), .long (x.ws j), .long (x.lm j), .int (hs_mask (x.se j)), .int (x.hu j)] : List Value) = _; rw [va_up_ne _ _ (by omega)]; rfl)
theorem hc_s_gt {ad : Nat → Nat} {cy : Nat → ClassId} {x : HM} {i : Nat} {v : Nat} (hi : i < 8) : (hc_mem ad cy x).set (57 + i) (ad (57 + i), .inr (2, (hc_txL ad x i).set 1 (.ref (ad (5 + v))))) = hc_mem ad cy (x.u_gt i v) :=
  hc_set (57 + i) (by rw [hc_c_tx]; show (Sum.inr (2, [.int (x.ph i), .ref (ad (5 + (va_up x.gt i v i))), .int (x.bt i), .int (nI (x.bi i)), .long (x.rs i), .long (x.ws i), .long (x.lm i), .int (hs_mask (x.se i)), .int (x.hu i)]) : va_E) = _; rw [va_up_self]; rfl)
    (fun _ _ _ => rfl) (fun _ _ => rfl) (fun _ _ => rfl) (fun _ _ => rfl) (fun _ _ => rfl) (fun j h => by show ([.int (x.ph j), .ref (ad (5 + (va_up x.gt i v j))), .int (x.bt j), .int (nI (x.bi j)), .long (x.rs j), .long (x.ws j), .long (x.lm j), .int (hs_mask (x.se j)), .int (x.hu j)] : List Value) = _; rw [va_up_ne _ _ (by omega)]; rfl)
theorem hc_s_bt {ad : Nat → Nat} {cy : Nat → ClassId} {x : HM} {i : Nat} {v : Int32} (hi : i < 8) : (hc_mem ad cy x).set (57 + i) (ad (57 + i), .inr (2, (hc_txL ad x i).set 2 (.int (v)))) = hc_mem ad cy (x.u_bt i v) :=
  hc_set (57 + i) (by rw [hc_c_tx]; show (Sum.inr (2, [.int (x.ph i), .ref (ad (5 + (x.gt i))), .int (va_up x.bt i v i), .int (nI (x.bi i)), .long (x.rs i), .long (x.ws i), .long (x.lm i), .int (hs_mask (x.se i)), .int (x.hu i)]) : va_E) = _; rw [va_up_self]; rfl)
    (fun _ _ _ => rfl) (fun _ _ => rfl) (fun _ _ => rfl) (fun _ _ => rfl) (fun _ _ => rfl) (fun j h => by show ([.int (x.ph j), .ref (ad (5 + (x.gt j))), .int (va_up x.bt i v j), .int (nI (x.bi j)), .long (x.rs j), .long (x.ws j), .long (x.lm j), .int (hs_mask (x.se j)), .int (x.hu j)] : List Value) = _; rw [va_up_ne _ _ (by omega)]; rfl)
theorem hc_s_bi {ad : Nat → Nat} {cy : Nat → ClassId} {x : HM} {i : Nat} {v : Nat} (hi : i < 8) : (hc_mem ad cy x).set (57 + i) (ad (57 + i), .inr (2, (hc_txL ad x i).set 3 (.int (nI v)))) = hc_mem ad cy (x.u_bi i v) :=
  hc_set (57 + i) (by rw [hc_c_tx]; show (Sum.inr (2, [.int (x.ph i), .ref (ad (5 + (x.gt i))), .int (x.bt i), .int (nI (va_up x.bi i v i)), .long (x.rs i), .long (x.ws i), .long (x.lm i), .int (hs_mask (x.se i)), .int (x.hu i)]) : va_E) = _; rw [va_up_self]; rfl)
    (fun _ _ _ => rfl) (fun _ _ => rfl) (fun _ _ => rfl) (fun _ _ => rfl) (fun _ _ => rfl) (fun j h => by show ([.int (x.ph j), .ref (ad (5 + (x.gt j))), .int (x.bt j), .int (nI (va_up x.bi i v j)), .long (x.rs j), .long (x.ws j), .long (x.lm j), .int (hs_mask (x.se j)), .int (x.hu j)] : List Value) = _; rw [va_up_ne _ _ (by omega)]; rfl)
theorem hc_s_rs {ad : Nat → Nat} {cy : Nat → ClassId} {x : HM} {i : Nat} {v : Int64} (hi : i < 8) : (hc_mem ad cy x).set (57 + i) (ad (57 + i), .inr (2, (hc_txL ad x i).set 4 (.long (v)))) = hc_mem ad cy (x.u_rs i v) :=
  hc_set (57 + i) (by rw [hc_c_tx]; show (Sum.inr (2, [.int (x.ph i), .ref (ad (5 + (x.gt i))), .int (x.bt i), .int (nI (x.bi i)), .long (va_up x.rs i v i), .long (x.ws i), .long (x.lm i), .int (hs_mask (x.se i)), .int (x.hu i)]) : va_E) = _; rw [va_up_self]; rfl)
    (fun _ _ _ => rfl) (fun _ _ => rfl) (fun _ _ => rfl) (fun _ _ => rfl) (fun _ _ => rfl) (fun j h => by show ([.int (x.ph j), .ref (ad (5 + (x.gt j))), .int (x.bt j), .int (nI (x.bi j)), .long (va_up x.rs i v j), .long (x.ws j), .long (x.lm j), .int (hs_mask (x.se j)), .int (x.hu j)] : List Value) = _; rw [va_up_ne _ _ (by omega)]; rfl)
theorem hc_s_ws {ad : Nat → Nat} {cy : Nat → ClassId} {x : HM} {i : Nat} {v : Int64} (hi : i < 8) : (hc_mem ad cy x).set (57 + i) (ad (57 + i), .inr (2, (hc_txL ad x i).set 5 (.long (v)))) = hc_mem ad cy (x.u_ws i v) :=
  hc_set (57 + i) (by rw [hc_c_tx]; show (Sum.inr (2, [.int (x.ph i), .ref (ad (5 + (x.gt i))), .int (x.bt i), .int (nI (x.bi i)), .long (x.rs i), .long (va_up x.ws i v i), .long (x.lm i), .int (hs_mask (x.se i)), .int (x.hu i)]) : va_E) = _; rw [va_up_self]; rfl)
    (fun _ _ _ => rfl) (fun _ _ => rfl) (fun _ _ => rfl) (fun _ _ => rfl) (fun _ _ => rfl) (fun j h => by show ([.int (x.ph j), .ref (ad (5 + (x.gt j))), .int (x.bt j), .int (nI (x.bi j)), .long (x.rs j), .long (va_up x.ws i v j), .long (x.lm j), .int (hs_mask (x.se j)), .int (x.hu j)] : List Value) = _; rw [va_up_ne _ _ (by omega)]; rfl)
theorem hc_s_lm {ad : Nat → Nat} {cy : Nat → ClassId} {x : HM} {i : Nat} {v : Int64} (hi : i < 8) : (hc_mem ad cy x).set (57 + i) (ad (57 + i), .inr (2, (hc_txL ad x i).set 6 (.long (v)))) = hc_mem ad cy (x.u_lm i v) :=
  hc_set (57 + i) (by rw [hc_c_tx]; show (Sum.inr (2, [.int (x.ph i), .ref (ad (5 + (x.gt i))), .int (x.bt i), .int (nI (x.bi i)), .long (x.rs i), .long (x.ws i), .long (va_up x.lm i v i), .int (hs_mask (x.se i)), .int (x.hu i)]) : va_E) = _; rw [va_up_self]; rfl)
    (fun _ _ _ => rfl) (fun _ _ => rfl) (fun _ _ => rfl) (fun _ _ => rfl) (fun _ _ => rfl) (fun j h => by show ([.int (x.ph j), .ref (ad (5 + (x.gt j))), .int (x.bt j), .int (nI (x.bi j)), .long (x.rs j), .long (x.ws j), .long (va_up x.lm i v j), .int (hs_mask (x.se j)), .int (x.hu j)] : List Value) = _; rw [va_up_ne _ _ (by omega)]; rfl)
theorem hc_s_se {ad : Nat → Nat} {cy : Nat → ClassId} {x : HM} {i : Nat} {v : Nat → Bool} (hi : i < 8) : (hc_mem ad cy x).set (57 + i) (ad (57 + i), .inr (2, (hc_txL ad x i).set 7 (.int (hs_mask v)))) = hc_mem ad cy (x.u_se i v) :=
  hc_set (57 + i) (by rw [hc_c_tx]; show (Sum.inr (2, [.int (x.ph i), .ref (ad (5 + (x.gt i))), .int (x.bt i), .int (nI (x.bi i)), .long (x.rs i), .long (x.ws i), .long (x.lm i), .int (hs_mask (va_up x.se i v i)), .int (x.hu i)]) : va_E) = _; rw [va_up_self]; rfl)
    (fun _ _ _ => rfl) (fun _ _ => rfl) (fun _ _ => rfl) (fun _ _ => rfl) (fun _ _ => rfl) (fun j h => by show ([.int (x.ph j), .ref (ad (5 + (x.gt j))), .int (x.bt j), .int (nI (x.bi j)), .long (x.rs j), .long (x.ws j), .long (x.lm j), .int (hs_mask (va_up x.se i v j)), .int (x.hu j)] : List Value) = _; rw [va_up_ne _ _ (by omega)]; rfl)
theorem hc_s_hu {ad : Nat → Nat} {cy : Nat → ClassId} {x : HM} {i : Nat} {v : Int32} (hi : i < 8) : (hc_mem ad cy x).set (57 + i) (ad (57 + i), .inr (2, (hc_txL ad x i).set 8 (.int (v)))) = hc_mem ad cy (x.u_hu i v) :=
  hc_set (57 + i) (by rw [hc_c_tx]; show (Sum.inr (2, [.int (x.ph i), .ref (ad (5 + (x.gt i))), .int (x.bt i), .int (nI (x.bi i)), .long (x.rs i), .long (x.ws i), .long (x.lm i), .int (hs_mask (x.se i)), .int (va_up x.hu i v i)]) : va_E) = _; rw [va_up_self]; rfl)
    (fun _ _ _ => rfl) (fun _ _ => rfl) (fun _ _ => rfl) (fun _ _ => rfl) (fun _ _ => rfl) (fun j h => by show ([.int (x.ph j), .ref (ad (5 + (x.gt j))), .int (x.bt j), .int (nI (x.bi j)), .long (x.rs j), .long (x.ws j), .long (x.lm j), .int (hs_mask (x.se j)), .int (va_up x.hu i v j)] : List Value) = _; rw [va_up_ne _ _ (by omega)]; rfl)
theorem hc_s_lr {ad : Nat → Nat} {cy : Nat → ClassId} {x : HM} {i : Nat} {v : Int64} (hi : i < 16) : (hc_mem ad cy x).set (9 + i) (ad (9 + i), .inr (0, (hc_keyL ad x i).set 5 (.long (v)))) = hc_mem ad cy (x.u_lr i v) :=
  hc_set (9 + i) (by rw [hc_c_key hi]; show (Sum.inr (0, [.int (hs_bit i), .ref (ad (5 + i % 4)), .ref (ad (25 + i)), .ref (ad (41 + i)), .int (nI (x.vk i).length), .long (va_up x.lr i v i), va_rf (Option.map (fun t => ad (57 + t)) (x.hd i)), .int (x.pl i)]) : va_E) = _; rw [va_up_self]; rfl)
    (fun _ _ _ => rfl) (fun _ _ => rfl) (fun j h => by show ([.int (hs_bit j), .ref (ad (5 + j % 4)), .ref (ad (25 + j)), .ref (ad (41 + j)), .int (nI (x.vk j).length), .long (va_up x.lr i v j), va_rf (Option.map (fun t => ad (57 + t)) (x.hd j)), .int (x.pl j)] : List Value) = _; rw [va_up_ne _ _ (by omega)]; rfl) (fun _ _ => rfl) (fun _ _ => rfl) (fun _ _ => rfl)
theorem hc_s_hd {ad : Nat → Nat} {cy : Nat → ClassId} {x : HM} {i : Nat} {v : Option Nat} (hi : i < 16) : (hc_mem ad cy x).set (9 + i) (ad (9 + i), .inr (0, (hc_keyL ad x i).set 6 (va_rf (Option.map (fun t => ad (57 + t)) v)))) = hc_mem ad cy (x.u_hd i v) :=
  hc_set (9 + i) (by rw [hc_c_key hi]; show (Sum.inr (0, [.int (hs_bit i), .ref (ad (5 + i % 4)), .ref (ad (25 + i)), .ref (ad (41 + i)), .int (nI (x.vk i).length), .long (x.lr i), va_rf (Option.map (fun t => ad (57 + t)) (va_up x.hd i v i)), .int (x.pl i)]) : va_E) = _; rw [va_up_self]; rfl)
    (fun _ _ _ => rfl) (fun _ _ => rfl) (fun j h => by show ([.int (hs_bit j), .ref (ad (5 + j % 4)), .ref (ad (25 + j)), .ref (ad (41 + j)), .int (nI (x.vk j).length), .long (x.lr j), va_rf (Option.map (fun t => ad (57 + t)) (va_up x.hd i v j)), .int (x.pl j)] : List Value) = _; rw [va_up_ne _ _ (by omega)]; rfl) (fun _ _ => rfl) (fun _ _ => rfl) (fun _ _ => rfl)
theorem hc_s_pl {ad : Nat → Nat} {cy : Nat → ClassId} {x : HM} {i : Nat} {v : Int32} (hi : i < 16) : (hc_mem ad cy x).set (9 + i) (ad (9 + i), .inr (0, (hc_keyL ad x i).set 7 (.int (v)))) = hc_mem ad cy (x.u_pl i v) :=
  hc_set (9 + i) (by rw [hc_c_key hi]; show (Sum.inr (0, [.int (hs_bit i), .ref (ad (5 + i % 4)), .ref (ad (25 + i)), .ref (ad (41 + i)), .int (nI (x.vk i).length), .long (x.lr i), va_rf (Option.map (fun t => ad (57 + t)) (x.hd i)), .int (va_up x.pl i v i)]) : va_E) = _; rw [va_up_self]; rfl)
    (fun _ _ _ => rfl) (fun _ _ => rfl) (fun j h => by show ([.int (hs_bit j), .ref (ad (5 + j % 4)), .ref (ad (25 + j)), .ref (ad (41 + j)), .int (nI (x.vk j).length), .long (x.lr j), va_rf (Option.map (fun t => ad (57 + t)) (x.hd j)), .int (va_up x.pl i v j)] : List Value) = _; rw [va_up_ne _ _ (by omega)]; rfl) (fun _ _ => rfl) (fun _ _ => rfl) (fun _ _ => rfl)
/-! ===== indices, compares of longs with the branch behind them ===== -/
theorem hs_in {i : Int32} {k n : Nat} (h : i.toNatClampNeg = k) (h2 : ¬ i < 0 ∧ k < n) : vp_in i n := by
  rintro (q | q)
  · exact h2.1 q
  · rw [h] at q; omega
theorem hs_inN {k n : Nat} (h : k < n) (hn : n < 2 ^ 31) : ¬ nI k < 0 ∧ k < n := ⟨nI_pos (by omega), h⟩
theorem hs_cmp_pos {x y : Int64} : 0 < lg_cmp x y ↔ y < x := by
  unfold lg_cmp
  by_cases h : y < x
  · simp [h]
  · by_cases e : x = y <;> simp [h, e]
theorem hs_cmp_zero {x y : Int64} : lg_cmp x y = 0 ↔ x = y := by
  unfold lg_cmp
  by_cases h : y < x
  · have : ¬ x = y := fun e => by subst e; exact absurd h (by simp [Int64.lt_irrefl])
    simp [h, this]
  · by_cases e : x = y <;> simp [h, e]
section HSL
variable {p : Program} {l : Launch} {e : Env} {R : Room} {s : State} {m : MethodId} {args : Array Value} {below : List Frame} {meth : Method} {c : Code} {H : Heap} {locs : List Loc} {cells slots : Nat} {Q : State → Prop}
variable {cc : ByteArray} {pc tgt : Nat} {ls : Array Slot} {rest : List Value} {x y : Int64} {off : Int}
theorem hs_lle (hx : p.tables.exec = Jvm.exec) (hb : c.code = cc) (d1 : decode cc pc = .ok (.lcmp, 1)) (d2 : decode cc (pc + 1) = .ok (.ifCond .le off, 3)) (ht : ((pc + 1 : Nat) : Int) + off = (tgt : Int))
    (kt : ¬ y < x → W p l e R s m args below meth c H locs cells slots Q (F0 m tgt ls rest)) (kf : y < x → W p l e R s m args below meth c H locs cells slots Q (F0 m (pc + 1 + 3) ls rest)) : W p l e R s m args below meth c H locs cells slots Q (F0 m pc ls (.long y :: .long x :: rest)) :=
  W.lcmp hx hb d1 (lv_if_le hx hb d2 ht (fun h => kt (fun q => Int32.not_le.mpr (hs_cmp_pos.mpr q) h)) (fun h => kf (hs_cmp_pos.mp (Int32.not_le.mp h))))
theorem hs_lgt (hx : p.tables.exec = Jvm.exec) (hb : c.code = cc) (d1 : decode cc pc = .ok (.lcmp, 1)) (d2 : decode cc (pc + 1) = .ok (.ifCond .gt off, 3)) (ht : ((pc + 1 : Nat) : Int) + off = (tgt : Int))
    (kt : y < x → W p l e R s m args below meth c H locs cells slots Q (F0 m tgt ls rest)) (kf : ¬ y < x → W p l e R s m args below meth c H locs cells slots Q (F0 m (pc + 1 + 3) ls rest)) : W p l e R s m args below meth c H locs cells slots Q (F0 m pc ls (.long y :: .long x :: rest)) :=
  W.lcmp hx hb d1 (lv_if_gt hx hb d2 ht (fun h => kt (hs_cmp_pos.mp h)) (fun h => kf (fun q => h (hs_cmp_pos.mpr q))))
theorem hs_leq (hx : p.tables.exec = Jvm.exec) (hb : c.code = cc) (d1 : decode cc pc = .ok (.lcmp, 1)) (d2 : decode cc (pc + 1) = .ok (.ifCond .eq off, 3)) (ht : ((pc + 1 : Nat) : Int) + off = (tgt : Int))
    (kt : x = y → W p l e R s m args below meth c H locs cells slots Q (F0 m tgt ls rest)) (kf : ¬ x = y → W p l e R s m args below meth c H locs cells slots Q (F0 m (pc + 1 + 3) ls rest)) : W p l e R s m args below meth c H locs cells slots Q (F0 m pc ls (.long y :: .long x :: rest)) :=
  W.lcmp hx hb d1 (lv_if_eq hx hb d2 ht (fun h => kt (hs_cmp_zero.mp h)) (fun h => kf (fun q => h (hs_cmp_zero.mpr q))))
theorem hs_lne (hx : p.tables.exec = Jvm.exec) (hb : c.code = cc) (d1 : decode cc pc = .ok (.lcmp, 1)) (d2 : decode cc (pc + 1) = .ok (.ifCond .ne off, 3)) (ht : ((pc + 1 : Nat) : Int) + off = (tgt : Int))
    (kt : ¬ x = y → W p l e R s m args below meth c H locs cells slots Q (F0 m tgt ls rest)) (kf : x = y → W p l e R s m args below meth c H locs cells slots Q (F0 m (pc + 1 + 3) ls rest)) : W p l e R s m args below meth c H locs cells slots Q (F0 m pc ls (.long y :: .long x :: rest)) :=
  W.lcmp hx hb d1 (lv_if_ne hx hb d2 ht (fun h => kt (fun q => h (hs_cmp_zero.mpr q))) (fun h => kf (hs_cmp_zero.mp h)))
theorem hs_lge (hx : p.tables.exec = Jvm.exec) (hb : c.code = cc) (d1 : decode cc pc = .ok (.lcmp, 1)) (d2 : decode cc (pc + 1) = .ok (.ifCond .ge off, 3)) (ht : ((pc + 1 : Nat) : Int) + off = (tgt : Int))
    (kt : ¬ x < y → W p l e R s m args below meth c H locs cells slots Q (F0 m tgt ls rest)) (kf : x < y → W p l e R s m args below meth c H locs cells slots Q (F0 m (pc + 1 + 3) ls rest)) : W p l e R s m args below meth c H locs cells slots Q (F0 m pc ls (.long y :: .long x :: rest)) := by
  have key : 0 ≤ lg_cmp x y ↔ ¬ x < y := by
    unfold lg_cmp
    by_cases h : y < x
    · simp only [h, if_true]
      exact ⟨fun _ q => Int64.lt_irrefl (Int64.lt_trans h q), fun _ => by decide⟩
    · by_cases e : x = y
      · subst e; simp [Int64.lt_irrefl]
      · simp only [h, e, if_false]
        exact ⟨fun q => absurd q (by decide), fun q => absurd (Int64.le_antisymm (Int64.not_lt.mp h) (Int64.not_lt.mp q)) e⟩
  exact W.lcmp hx hb d1 (lv_if_ge hx hb d2 ht (fun h => kt (key.mp h)) (fun h => kf (Decidable.byContradiction fun q => h (key.mpr q))))
end HSL


set_option maxRecDepth 100000 in
set_option maxHeartbeats 4000000 in
theorem cB_L_law_1602 {p : Program} {l : Launch} {e : Env} {s : State} {m : MethodId} {args : Array Value} {below : List Frame} {meth : Method} {c : Code} {Z : State → Prop} {G : mgT} {o L : Nat} {xs : Nat → Int32} (hl0 : l.stackTraces = false) (S : CallFix p m c cL_law 9 s args TT RL) (hG : GK G s s.heap) (hX : va_X o L xs s s.heap) (hbl : o < s.heap.size) (hbA : ¬ Ah G o) (hgh : gh G = s.heap.size) (hend : ∀ (pc : Nat) (H : Heap) (ls : Array Slot), decode cL_law pc = .ok (.ireturn, 1) → W p l e room_1 s m args below meth c H [] 603072 7223402 Z (F0 m pc ls [.int 1])) : ∀ (K28 : Option Nat → Option Nat → Option Nat → Option Nat → Int32 → Nat → mmT → Prop) (kK28 : ∀ (r1 : Option Nat) (r2 : Option Nat) (r3 : Option Nat) (r4 : Option Nat) (x5 : Int32) (t28 : Nat) (μ : mmT) (H : Heap) (locs : List Loc) (ls : Array Slot), Mm G μ H → va_S (Ah G) s.heap H locs → lv_has ls 9 [(0, .ref o), (1, va_rf r1), (2, va_rf r2), (3, va_rf r3), (4, va_rf r4), (5, .int x5)] → K28 r1 r2 r3 r4 x5 t28 μ → W p l e room_1 s m args below meth c H locs (652 + 2 * t28) (7573 + 12 * t28) Z (F0 m 28 ls [])) (r1 : Option Nat) (r2 : Option Nat) (r3 : Option Nat) (r4 : Option Nat) (x5 : Int32) (t28 : Nat) (μ : mmT) (H : Heap) (locs : List Loc) (ls : Array Slot), Mm G μ H → va_S (Ah G) s.heap H locs → lv_has ls 9 [(0, .ref o), (1, va_rf r1), (2, va_rf r2), (3, va_rf r3), (4, va_rf r4), (5, .int x5)] → w_L_law_b1602 G o L xs K28 r1 r2 r3 r4 x5 t28 μ → W p l e room_1 s m args below meth c H locs (654 + 2 * t28) (7585 + 12 * t28) Z (F0 m 1602 ls []) := by
  intro K28 kK28 r1 r2 r3 r4 x5 t28 μ H locs ls hM hS hl h
  unfold w_L_law_b1602 at h
  obtain ⟨ht28, h⟩ := h
  refine lv_goto (tgt := 2766) S.1 S.2.1 dL_law_1602 (by decide) ?_
  refine W.widen (k := 654 + 2 * t28) (n := 7585 + 12 * t28) (by omega) (by omega) ?_
  exact cB_L_law_2766 hl0 S hG hX hbl hbA hgh hend K28 kK28 r1 r2 r3 r4 x5 t28 μ H locs ls hM hS (lv_sub hl [0, 1, 2, 3, 4, 5] rfl) h
set_option maxRecDepth 100000 in
set_option maxHeartbeats 4000000 in
theorem cB_L_law_1549 {p : Program} {l : Launch} {e : Env} {s : State} {m : MethodId} {args : Array Value} {below : List Frame} {meth : Method} {c : Code} {Z : State → Prop} {G : mgT} {o L : Nat} {xs : Nat → Int32} (hl0 : l.stackTraces = false) (S : CallFix p m c cL_law 9 s args TT RL) (hG : GK G s s.heap) (hX : va_X o L xs s s.heap) (hbl : o < s.heap.size) (hbA : ¬ Ah G o) (hgh : gh G = s.heap.size) (hend : ∀ (pc : Nat) (H : Heap) (ls : Array Slot), decode cL_law pc = .ok (.ireturn, 1) → W p l e room_1 s m args below meth c H [] 603072 7223402 Z (F0 m pc ls [.int 1])) : ∀ (K28 : Option Nat → Option Nat → Option Nat → Option Nat → Int32 → Nat → mmT → Prop) (kK28 : ∀ (r1 : Option Nat) (r2 : Option Nat) (r3 : Option Nat) (r4 : Option Nat) (x5 : Int32) (t28 : Nat) (μ : mmT) (H : Heap) (locs : List Loc) (ls : Array Slot), Mm G μ H → va_S (Ah G) s.heap H locs → lv_has ls 9 [(0, .ref o), (1, va_rf r1), (2, va_rf r2), (3, va_rf r3), (4, va_rf r4), (5, .int x5)] → K28 r1 r2 r3 r4 x5 t28 μ → W p l e room_1 s m args below meth c H locs (652 + 2 * t28) (7573 + 12 * t28) Z (F0 m 28 ls [])) (r1 : Option Nat) (r2 : Option Nat) (r3 : Option Nat) (r4 : Option Nat) (x5 : Int32) (t28 : Nat) (μ : mmT) (H : Heap) (locs : List Loc) (ls : Array Slot), Mm G μ H → va_S (Ah G) s.heap H locs → lv_has ls 9 [(0, .ref o), (1, va_rf r1), (2, va_rf r2), (3, va_rf r3), (4, va_rf r4), (5, .int x5)] → w_L_law_b1549 G o L xs K28 r1 r2 r3 r4 x5 t28 μ → W p l e room_1 s m args below meth c H locs (652 + 2 * t28) (7573 + 12 * t28) Z (F0 m 1549 ls []) := by
  intro K28 kK28 r1 r2 r3 r4 x5 t28 μ H locs ls hM hS hl h
  unfold w_L_law_b1549 at h
  obtain ⟨ht28, h⟩ := h
  refine mz_aload_n (x := r1) S.1 S.2.1 dL_law_1549 rfl (lv_at hl 1 rfl) ?_
  refine lv_aload_n S.1 S.2.1 dL_law_1550 rfl (lv_at hl 0 rfl) ?_
  refine lv_iload S.1 S.2.1 dL_law_1551 (lv_at hl 5 rfl) ?_
  refine lv_iconst (v := (nI 1)) S.1 S.2.1 dL_law_1553 (by decide) ?_
  refine lv_iadd S.1 S.2.1 dL_law_1554 ?_
  obtain ⟨b425, h⟩ := h
  refine va_sld S.1 S.2.1 hX hbl hbA hS b425 dL_law_1555 ?_
  refine mz_aload_n (x := r3) S.1 S.2.1 dL_law_1556 rfl (lv_at hl 3 rfl) ?_
  refine mz_SH S hG hM hS (As := [va_rf r1, .int (xs (x5 + (nI 1)).toNatClampNeg), va_rf r3]) (rest := []) (c_L_attempts hl0 h) yh_L_attempts tw_1201 tw_1202 ⟨Nat.le_of_ble_eq_true rfl, Nat.le_of_ble_eq_true rfl⟩ ⟨(by show (652 + 2 * t28) + 1 ≤ 603072; omega), (by show (7573 + 12 * t28) + 6 ≤ 7223402; omega)⟩ rfl hl.1 rfl (Nat.le_of_ble_eq_true rfl) dL_law_1557 (fun v9 μ427 H locs hp hM hS => ?_)
  obtain ⟨u426, rfl, h⟩ := hp
  refine W.cs (cells' := 653 + 2 * t28) (slots' := 7579 + 12 * t28) (by first | omega | (dsimp only; omega)) (by first | omega | (dsimp only; omega)) ?_
  refine lv_istore (lv' := [(6, .int u426), (0, .ref o), (1, va_rf r1), (2, va_rf r2), (3, va_rf r3), (4, va_rf r4), (5, .int x5)]) S.1 S.2.1 dL_law_1560 hl (by decide) rfl (fun ls hl => ?_)
  refine mz_aload_n (x := r2) S.1 S.2.1 dL_law_1562 rfl (lv_at hl 3 rfl) ?_
  refine lv_aload_n S.1 S.2.1 dL_law_1563 rfl (lv_at hl 1 rfl) ?_
  refine lv_iload S.1 S.2.1 dL_law_1564 (lv_at hl 6 rfl) ?_
  refine lv_iconst (v := (nI 1)) S.1 S.2.1 dL_law_1566 (by decide) ?_
  refine lv_iadd S.1 S.2.1 dL_law_1567 ?_
  obtain ⟨b428, h⟩ := h
  refine va_sld S.1 S.2.1 hX hbl hbA hS b428 dL_law_1568 ?_
  obtain ⟨a429, e430, h⟩ := h
  refine mz_o1 e430 ?_
  obtain ⟨k431, h⟩ := h
  refine mz_V S hG hM hS cf_10 k431 (As := [.int (xs (x5 + (nI 1)).toNatClampNeg)]) (rest := []) (c_X11_attempts h) yf_X11_attempts tw_1766 tw_1767 tw_1768 ⟨Nat.le_of_ble_eq_true rfl, Nat.le_of_ble_eq_true rfl⟩ ⟨(by show (653 + 2 * t28) + 0 ≤ 603072; omega), (by show (7579 + 12 * t28) + 0 ≤ 7223402; omega)⟩ rfl hl.1 rfl (Nat.le_of_ble_eq_true rfl) dL_law_1569 (fun v9 μ433 H locs hp hM hS => ?_)
  obtain ⟨u432, rfl, h⟩ := hp
  refine W.cs (cells' := 653 + 2 * t28) (slots' := 7579 + 12 * t28) (by first | omega | (dsimp only; omega)) (by first | omega | (dsimp only; omega)) ?_
  refine lv_istore (lv' := [(7, .int u432), (6, .int u426), (0, .ref o), (1, va_rf r1), (2, va_rf r2), (3, va_rf r3), (4, va_rf r4), (5, .int x5)]) S.1 S.2.1 dL_law_1572 hl (by decide) rfl (fun ls hl => ?_)
  refine mz_aload_n (x := r2) S.1 S.2.1 dL_law_1574 rfl (lv_at hl 4 rfl) ?_
  refine mz_o0 e430 ?_
  obtain ⟨k434, h⟩ := h
  refine mz_V S hG hM hS cf_10 k434 (As := []) (rest := []) (c_X11_thrown h) yf_X11_thrown tw_1543 tw_1544 tw_1545 ⟨Nat.le_of_ble_eq_true rfl, Nat.le_of_ble_eq_true rfl⟩ ⟨(by show (653 + 2 * t28) + 0 ≤ 603072; omega), (by show (7579 + 12 * t28) + 0 ≤ 7223402; omega)⟩ rfl hl.1 rfl (Nat.le_of_ble_eq_true rfl) dL_law_1575 (fun v9 μ9 H locs hp hM hS => ?_)
  obtain ⟨u435, rfl, e9, h⟩ := hp
  rw [e9] at hM
  refine W.cs (cells' := 653 + 2 * t28) (slots' := 7579 + 12 * t28) (by first | omega | (dsimp only; omega)) (by first | omega | (dsimp only; omega)) ?_
  refine lv_iload S.1 S.2.1 dL_law_1578 (lv_at hl 1 rfl) ?_
  refine lv_icmp_eq (tgt := 1585) S.1 S.2.1 dL_law_1580 (by decide) (fun c436 => ?_) (fun c436 => ?_)
  · have h := h.1 c436
    refine lv_iload S.1 S.2.1 dL_law_1585 (lv_at hl 1 rfl) ?_
    refine lv_if_ne (tgt := 1602) S.1 S.2.1 dL_law_1587 (by decide) (fun c437 => ?_) (fun c437 => ?_)
    · have h := h.1 c437
      refine W.widen (k := 654 + 2 * t28) (n := 7585 + 12 * t28) (by omega) (by omega) ?_
      exact cB_L_law_1602 hl0 S hG hX hbl hbA hgh hend K28 kK28 r1 r2 r3 r4 x5 t28 μ433 H locs ls hM hS (lv_sub hl [2, 3, 4, 5, 6, 7] rfl) h
    · have h := h.2 c437
      refine mz_aload_n (x := r3) S.1 S.2.1 dL_law_1590 rfl (lv_at hl 5 rfl) ?_
      refine lv_iconst (v := (nI 0)) S.1 S.2.1 dL_law_1591 (by decide) ?_
      obtain ⟨a438, e439, h⟩ := h
      refine mz_o1 e439 ?_
      obtain ⟨k440, h⟩ := h
      obtain ⟨b441, h⟩ := h
      refine mz_lald S hG hM dL_law_1592 k440 b441 ?_
      refine lv_iload S.1 S.2.1 dL_law_1593 (lv_at hl 0 rfl) ?_
      refine lv_i2l S.1 S.2.1 dL_law_1595 rfl ?_
      refine W.lcmp S.1 S.2.1 dL_law_1596 ?_
      refine lv_if_eq (tgt := 1602) S.1 S.2.1 dL_law_1597 (by decide) (fun c442 => ?_) (fun c442 => ?_)
      · have h := h.1 c442
        refine W.widen (k := 654 + 2 * t28) (n := 7585 + 12 * t28) (by omega) (by omega) ?_
        exact cB_L_law_1602 hl0 S hG hX hbl hbA hgh hend K28 kK28 r1 r2 r3 r4 x5 t28 μ433 H locs ls hM hS (lv_sub hl [2, 3, 4, 5, 6, 7] rfl) h
      · have h := h.2 c442
        refine lv_iconst (v := (nI 0)) S.1 S.2.1 dL_law_1600 (by decide) ?_
        exact h.elim
  · have h := h.2 c436
    refine lv_iconst (v := (nI 0)) S.1 S.2.1 dL_law_1583 (by decide) ?_
    exact h.elim
set_option maxRecDepth 100000 in
set_option maxHeartbeats 4000000 in
theorem cB_L_law_1658 {p : Program} {l : Launch} {e : Env} {s : State} {m : MethodId} {args : Array Value} {below : List Frame} {meth : Method} {c : Code} {Z : State → Prop} {G : mgT} {o L : Nat} {xs : Nat → Int32} (hl0 : l.stackTraces = false) (S : CallFix p m c cL_law 9 s args TT RL) (hG : GK G s s.heap) (hX : va_X o L xs s s.heap) (hbl : o < s.heap.size) (hbA : ¬ Ah G o) (hgh : gh G = s.heap.size) (hend : ∀ (pc : Nat) (H : Heap) (ls : Array Slot), decode cL_law pc = .ok (.ireturn, 1) → W p l e room_1 s m args below meth c H [] 603072 7223402 Z (F0 m pc ls [.int 1])) : ∀ (K28 : Option Nat → Option Nat → Option Nat → Option Nat → Int32 → Nat → mmT → Prop) (kK28 : ∀ (r1 : Option Nat) (r2 : Option Nat) (r3 : Option Nat) (r4 : Option Nat) (x5 : Int32) (t28 : Nat) (μ : mmT) (H : Heap) (locs : List Loc) (ls : Array Slot), Mm G μ H → va_S (Ah G) s.heap H locs → lv_has ls 9 [(0, .ref o), (1, va_rf r1), (2, va_rf r2), (3, va_rf r3), (4, va_rf r4), (5, .int x5)] → K28 r1 r2 r3 r4 x5 t28 μ → W p l e room_1 s m args below meth c H locs (652 + 2 * t28) (7573 + 12 * t28) Z (F0 m 28 ls [])) (r1 : Option Nat) (r2 : Option Nat) (r3 : Option Nat) (r4 : Option Nat) (x5 : Int32) (t28 : Nat) (μ : mmT) (H : Heap) (locs : List Loc) (ls : Array Slot), Mm G μ H → va_S (Ah G) s.heap H locs → lv_has ls 9 [(0, .ref o), (1, va_rf r1), (2, va_rf r2), (3, va_rf r3), (4, va_rf r4), (5, .int x5)] → w_L_law_b1658 G o L xs K28 r1 r2 r3 r4 x5 t28 μ → W p l e room_1 s m args below meth c H locs (654 + 2 * t28) (7585 + 12 * t28) Z (F0 m 1658 ls []) := by
  intro K28 kK28 r1 r2 r3 r4 x5 t28 μ H locs ls hM hS hl h
  unfold w_L_law_b1658 at h
  obtain ⟨ht28, h⟩ := h
  refine lv_goto (tgt := 2766) S.1 S.2.1 dL_law_1658 (by decide) ?_
  refine W.widen (k := 654 + 2 * t28) (n := 7585 + 12 * t28) (by omega) (by omega) ?_
  exact cB_L_law_2766 hl0 S hG hX hbl hbA hgh hend K28 kK28 r1 r2 r3 r4 x5 t28 μ H locs ls hM hS (lv_sub hl [0, 1, 2, 3, 4, 5] rfl) h
set_option maxRecDepth 100000 in
set_option maxHeartbeats 4000000 in
theorem cB_L_law_1605 {p : Program} {l : Launch} {e : Env} {s : State} {m : MethodId} {args : Array Value} {below : List Frame} {meth : Method} {c : Code} {Z : State → Prop} {G : mgT} {o L : Nat} {xs : Nat → Int32} (hl0 : l.stackTraces = false) (S : CallFix p m c cL_law 9 s args TT RL) (hG : GK G s s.heap) (hX : va_X o L xs s s.heap) (hbl : o < s.heap.size) (hbA : ¬ Ah G o) (hgh : gh G = s.heap.size) (hend : ∀ (pc : Nat) (H : Heap) (ls : Array Slot), decode cL_law pc = .ok (.ireturn, 1) → W p l e room_1 s m args below meth c H [] 603072 7223402 Z (F0 m pc ls [.int 1])) : ∀ (K28 : Option Nat → Option Nat → Option Nat → Option Nat → Int32 → Nat → mmT → Prop) (kK28 : ∀ (r1 : Option Nat) (r2 : Option Nat) (r3 : Option Nat) (r4 : Option Nat) (x5 : Int32) (t28 : Nat) (μ : mmT) (H : Heap) (locs : List Loc) (ls : Array Slot), Mm G μ H → va_S (Ah G) s.heap H locs → lv_has ls 9 [(0, .ref o), (1, va_rf r1), (2, va_rf r2), (3, va_rf r3), (4, va_rf r4), (5, .int x5)] → K28 r1 r2 r3 r4 x5 t28 μ → W p l e room_1 s m args below meth c H locs (652 + 2 * t28) (7573 + 12 * t28) Z (F0 m 28 ls [])) (r1 : Option Nat) (r2 : Option Nat) (r3 : Option Nat) (r4 : Option Nat) (x5 : Int32) (t28 : Nat) (μ : mmT) (H : Heap) (locs : List Loc) (ls : Array Slot), Mm G μ H → va_S (Ah G) s.heap H locs → lv_has ls 9 [(0, .ref o), (1, va_rf r1), (2, va_rf r2), (3, va_rf r3), (4, va_rf r4), (5, .int x5)] → w_L_law_b1605 G o L xs K28 r1 r2 r3 r4 x5 t28 μ → W p l e room_1 s m args below meth c H locs (652 + 2 * t28) (7573 + 12 * t28) Z (F0 m 1605 ls []) := by
  intro K28 kK28 r1 r2 r3 r4 x5 t28 μ H locs ls hM hS hl h
  unfold w_L_law_b1605 at h
  obtain ⟨ht28, h⟩ := h
  refine mz_aload_n (x := r1) S.1 S.2.1 dL_law_1605 rfl (lv_at hl 1 rfl) ?_
  refine lv_aload_n S.1 S.2.1 dL_law_1606 rfl (lv_at hl 0 rfl) ?_
  refine lv_iload S.1 S.2.1 dL_law_1607 (lv_at hl 5 rfl) ?_
  refine lv_iconst (v := (nI 1)) S.1 S.2.1 dL_law_1609 (by decide) ?_
  refine lv_iadd S.1 S.2.1 dL_law_1610 ?_
  obtain ⟨b443, h⟩ := h
  refine va_sld S.1 S.2.1 hX hbl hbA hS b443 dL_law_1611 ?_
  refine mz_aload_n (x := r3) S.1 S.2.1 dL_law_1612 rfl (lv_at hl 3 rfl) ?_
  refine mz_SH S hG hM hS (As := [va_rf r1, .int (xs (x5 + (nI 1)).toNatClampNeg), va_rf r3]) (rest := []) (c_L_status hl0 h) yh_L_status tw_1208 tw_1209 ⟨Nat.le_of_ble_eq_true rfl, Nat.le_of_ble_eq_true rfl⟩ ⟨(by show (652 + 2 * t28) + 1 ≤ 603072; omega), (by show (7573 + 12 * t28) + 6 ≤ 7223402; omega)⟩ rfl hl.1 rfl (Nat.le_of_ble_eq_true rfl) dL_law_1613 (fun v9 μ445 H locs hp hM hS => ?_)
  obtain ⟨u444, rfl, h⟩ := hp
  refine W.cs (cells' := 653 + 2 * t28) (slots' := 7579 + 12 * t28) (by first | omega | (dsimp only; omega)) (by first | omega | (dsimp only; omega)) ?_
  refine lv_istore (lv' := [(6, .int u444), (0, .ref o), (1, va_rf r1), (2, va_rf r2), (3, va_rf r3), (4, va_rf r4), (5, .int x5)]) S.1 S.2.1 dL_law_1616 hl (by decide) rfl (fun ls hl => ?_)
  refine mz_aload_n (x := r2) S.1 S.2.1 dL_law_1618 rfl (lv_at hl 3 rfl) ?_
  refine lv_aload_n S.1 S.2.1 dL_law_1619 rfl (lv_at hl 1 rfl) ?_
  refine lv_iload S.1 S.2.1 dL_law_1620 (lv_at hl 6 rfl) ?_
  refine lv_iconst (v := (nI 1)) S.1 S.2.1 dL_law_1622 (by decide) ?_
  refine lv_iadd S.1 S.2.1 dL_law_1623 ?_
  obtain ⟨b446, h⟩ := h
  refine va_sld S.1 S.2.1 hX hbl hbA hS b446 dL_law_1624 ?_
  obtain ⟨a447, e448, h⟩ := h
  refine mz_o1 e448 ?_
  obtain ⟨k449, h⟩ := h
  refine mz_V S hG hM hS cf_10 k449 (As := [.int (xs (x5 + (nI 1)).toNatClampNeg)]) (rest := []) (c_X11_status h) yf_X11_status tw_1770 tw_1771 tw_1772 ⟨Nat.le_of_ble_eq_true rfl, Nat.le_of_ble_eq_true rfl⟩ ⟨(by show (653 + 2 * t28) + 0 ≤ 603072; omega), (by show (7579 + 12 * t28) + 0 ≤ 7223402; omega)⟩ rfl hl.1 rfl (Nat.le_of_ble_eq_true rfl) dL_law_1625 (fun v9 μ451 H locs hp hM hS => ?_)
  obtain ⟨u450, rfl, h⟩ := hp
  refine W.cs (cells' := 653 + 2 * t28) (slots' := 7579 + 12 * t28) (by first | omega | (dsimp only; omega)) (by first | omega | (dsimp only; omega)) ?_
  refine lv_istore (lv' := [(7, .int u450), (6, .int u444), (0, .ref o), (1, va_rf r1), (2, va_rf r2), (3, va_rf r3), (4, va_rf r4), (5, .int x5)]) S.1 S.2.1 dL_law_1628 hl (by decide) rfl (fun ls hl => ?_)
  refine mz_aload_n (x := r2) S.1 S.2.1 dL_law_1630 rfl (lv_at hl 4 rfl) ?_
  refine mz_o0 e448 ?_
  obtain ⟨k452, h⟩ := h
  refine mz_V S hG hM hS cf_10 k452 (As := []) (rest := []) (c_X11_thrown h) yf_X11_thrown tw_1543 tw_1544 tw_1545 ⟨Nat.le_of_ble_eq_true rfl, Nat.le_of_ble_eq_true rfl⟩ ⟨(by show (653 + 2 * t28) + 0 ≤ 603072; omega), (by show (7579 + 12 * t28) + 0 ≤ 7223402; omega)⟩ rfl hl.1 rfl (Nat.le_of_ble_eq_true rfl) dL_law_1631 (fun v9 μ9 H locs hp hM hS => ?_)
  obtain ⟨u453, rfl, e9, h⟩ := hp
  rw [e9] at hM
  refine W.cs (cells' := 653 + 2 * t28) (slots' := 7579 + 12 * t28) (by first | omega | (dsimp only; omega)) (by first | omega | (dsimp only; omega)) ?_
  refine lv_iload S.1 S.2.1 dL_law_1634 (lv_at hl 1 rfl) ?_
  refine lv_icmp_eq (tgt := 1641) S.1 S.2.1 dL_law_1636 (by decide) (fun c454 => ?_) (fun c454 => ?_)
  · have h := h.1 c454
    refine lv_iload S.1 S.2.1 dL_law_1641 (lv_at hl 1 rfl) ?_
    refine lv_if_ne (tgt := 1658) S.1 S.2.1 dL_law_1643 (by decide) (fun c455 => ?_) (fun c455 => ?_)
    · have h := h.1 c455
      refine W.widen (k := 654 + 2 * t28) (n := 7585 + 12 * t28) (by omega) (by omega) ?_
      exact cB_L_law_1658 hl0 S hG hX hbl hbA hgh hend K28 kK28 r1 r2 r3 r4 x5 t28 μ451 H locs ls hM hS (lv_sub hl [2, 3, 4, 5, 6, 7] rfl) h
    · have h := h.2 c455
      refine mz_aload_n (x := r3) S.1 S.2.1 dL_law_1646 rfl (lv_at hl 5 rfl) ?_
      refine lv_iconst (v := (nI 0)) S.1 S.2.1 dL_law_1647 (by decide) ?_
      obtain ⟨a456, e457, h⟩ := h
      refine mz_o1 e457 ?_
      obtain ⟨k458, h⟩ := h
      obtain ⟨b459, h⟩ := h
      refine mz_lald S hG hM dL_law_1648 k458 b459 ?_
      refine lv_iload S.1 S.2.1 dL_law_1649 (lv_at hl 0 rfl) ?_
      refine lv_i2l S.1 S.2.1 dL_law_1651 rfl ?_
      refine W.lcmp S.1 S.2.1 dL_law_1652 ?_
      refine lv_if_eq (tgt := 1658) S.1 S.2.1 dL_law_1653 (by decide) (fun c460 => ?_) (fun c460 => ?_)
      · have h := h.1 c460
        refine W.widen (k := 654 + 2 * t28) (n := 7585 + 12 * t28) (by omega) (by omega) ?_
        exact cB_L_law_1658 hl0 S hG hX hbl hbA hgh hend K28 kK28 r1 r2 r3 r4 x5 t28 μ451 H locs ls hM hS (lv_sub hl [2, 3, 4, 5, 6, 7] rfl) h
      · have h := h.2 c460
        refine lv_iconst (v := (nI 0)) S.1 S.2.1 dL_law_1656 (by decide) ?_
        exact h.elim
  · have h := h.2 c454
    refine lv_iconst (v := (nI 0)) S.1 S.2.1 dL_law_1639 (by decide) ?_
    exact h.elim
set_option maxRecDepth 100000 in
set_option maxHeartbeats 4000000 in
theorem cB_L_law_1714 {p : Program} {l : Launch} {e : Env} {s : State} {m : MethodId} {args : Array Value} {below : List Frame} {meth : Method} {c : Code} {Z : State → Prop} {G : mgT} {o L : Nat} {xs : Nat → Int32} (hl0 : l.stackTraces = false) (S : CallFix p m c cL_law 9 s args TT RL) (hG : GK G s s.heap) (hX : va_X o L xs s s.heap) (hbl : o < s.heap.size) (hbA : ¬ Ah G o) (hgh : gh G = s.heap.size) (hend : ∀ (pc : Nat) (H : Heap) (ls : Array Slot), decode cL_law pc = .ok (.ireturn, 1) → W p l e room_1 s m args below meth c H [] 603072 7223402 Z (F0 m pc ls [.int 1])) : ∀ (K28 : Option Nat → Option Nat → Option Nat → Option Nat → Int32 → Nat → mmT → Prop) (kK28 : ∀ (r1 : Option Nat) (r2 : Option Nat) (r3 : Option Nat) (r4 : Option Nat) (x5 : Int32) (t28 : Nat) (μ : mmT) (H : Heap) (locs : List Loc) (ls : Array Slot), Mm G μ H → va_S (Ah G) s.heap H locs → lv_has ls 9 [(0, .ref o), (1, va_rf r1), (2, va_rf r2), (3, va_rf r3), (4, va_rf r4), (5, .int x5)] → K28 r1 r2 r3 r4 x5 t28 μ → W p l e room_1 s m args below meth c H locs (652 + 2 * t28) (7573 + 12 * t28) Z (F0 m 28 ls [])) (r1 : Option Nat) (r2 : Option Nat) (r3 : Option Nat) (r4 : Option Nat) (x5 : Int32) (t28 : Nat) (μ : mmT) (H : Heap) (locs : List Loc) (ls : Array Slot), Mm G μ H → va_S (Ah G) s.heap H locs → lv_has ls 9 [(0, .ref o), (1, va_rf r1), (2, va_rf r2), (3, va_rf r3), (4, va_rf r4), (5, .int x5)] → w_L_law_b1714 G o L xs K28 r1 r2 r3 r4 x5 t28 μ → W p l e room_1 s m args below meth c H locs (654 + 2 * t28) (7585 + 12 * t28) Z (F0 m 1714 ls []) := by
  intro K28 kK28 r1 r2 r3 r4 x5 t28 μ H locs ls hM hS hl h
  unfold w_L_law_b1714 at h
  obtain ⟨ht28, h⟩ := h
  refine lv_goto (tgt := 2766) S.1 S.2.1 dL_law_1714 (by decide) ?_
  refine W.widen (k := 654 + 2 * t28) (n := 7585 + 12 * t28) (by omega) (by omega) ?_
  exact cB_L_law_2766 hl0 S hG hX hbl hbA hgh hend K28 kK28 r1 r2 r3 r4 x5 t28 μ H locs ls hM hS (lv_sub hl [0, 1, 2, 3, 4, 5] rfl) h
set_option maxRecDepth 100000 in
set_option maxHeartbeats 4000000 in
theorem cB_L_law_1661 {p : Program} {l : Launch} {e : Env} {s : State} {m : MethodId} {args : Array Value} {below : List Frame} {meth : Method} {c : Code} {Z : State → Prop} {G : mgT} {o L : Nat} {xs : Nat → Int32} (hl0 : l.stackTraces = false) (S : CallFix p m c cL_law 9 s args TT RL) (hG : GK G s s.heap) (hX : va_X o L xs s s.heap) (hbl : o < s.heap.size) (hbA : ¬ Ah G o) (hgh : gh G = s.heap.size) (hend : ∀ (pc : Nat) (H : Heap) (ls : Array Slot), decode cL_law pc = .ok (.ireturn, 1) → W p l e room_1 s m args below meth c H [] 603072 7223402 Z (F0 m pc ls [.int 1])) : ∀ (K28 : Option Nat → Option Nat → Option Nat → Option Nat → Int32 → Nat → mmT → Prop) (kK28 : ∀ (r1 : Option Nat) (r2 : Option Nat) (r3 : Option Nat) (r4 : Option Nat) (x5 : Int32) (t28 : Nat) (μ : mmT) (H : Heap) (locs : List Loc) (ls : Array Slot), Mm G μ H → va_S (Ah G) s.heap H locs → lv_has ls 9 [(0, .ref o), (1, va_rf r1), (2, va_rf r2), (3, va_rf r3), (4, va_rf r4), (5, .int x5)] → K28 r1 r2 r3 r4 x5 t28 μ → W p l e room_1 s m args below meth c H locs (652 + 2 * t28) (7573 + 12 * t28) Z (F0 m 28 ls [])) (r1 : Option Nat) (r2 : Option Nat) (r3 : Option Nat) (r4 : Option Nat) (x5 : Int32) (t28 : Nat) (μ : mmT) (H : Heap) (locs : List Loc) (ls : Array Slot), Mm G μ H → va_S (Ah G) s.heap H locs → lv_has ls 9 [(0, .ref o), (1, va_rf r1), (2, va_rf r2), (3, va_rf r3), (4, va_rf r4), (5, .int x5)] → w_L_law_b1661 G o L xs K28 r1 r2 r3 r4 x5 t28 μ → W p l e room_1 s m args below meth c H locs (652 + 2 * t28) (7573 + 12 * t28) Z (F0 m 1661 ls []) := by
  intro K28 kK28 r1 r2 r3 r4 x5 t28 μ H locs ls hM hS hl h
  unfold w_L_law_b1661 at h
  obtain ⟨ht28, h⟩ := h
  refine mz_aload_n (x := r1) S.1 S.2.1 dL_law_1661 rfl (lv_at hl 1 rfl) ?_
  refine lv_aload_n S.1 S.2.1 dL_law_1662 rfl (lv_at hl 0 rfl) ?_
  refine lv_iload S.1 S.2.1 dL_law_1663 (lv_at hl 5 rfl) ?_
  refine lv_iconst (v := (nI 1)) S.1 S.2.1 dL_law_1665 (by decide) ?_
  refine lv_iadd S.1 S.2.1 dL_law_1666 ?_
  obtain ⟨b461, h⟩ := h
  refine va_sld S.1 S.2.1 hX hbl hbA hS b461 dL_law_1667 ?_
  refine mz_aload_n (x := r3) S.1 S.2.1 dL_law_1668 rfl (lv_at hl 3 rfl) ?_
  refine mz_SH S hG hM hS (As := [va_rf r1, .int (xs (x5 + (nI 1)).toNatClampNeg), va_rf r3]) (rest := []) (c_L_napMinutes hl0 h) yh_L_napMinutes tw_1215 tw_1216 ⟨Nat.le_of_ble_eq_true rfl, Nat.le_of_ble_eq_true rfl⟩ ⟨(by show (652 + 2 * t28) + 2 ≤ 603072; omega), (by show (7573 + 12 * t28) + 12 ≤ 7223402; omega)⟩ rfl hl.1 rfl (Nat.le_of_ble_eq_true rfl) dL_law_1669 (fun v9 μ463 H locs hp hM hS => ?_)
  obtain ⟨u462, rfl, h⟩ := hp
  refine W.cs (cells' := 654 + 2 * t28) (slots' := 7585 + 12 * t28) (by first | omega | (dsimp only; omega)) (by first | omega | (dsimp only; omega)) ?_
  refine lv_istore (lv' := [(6, .int u462), (0, .ref o), (1, va_rf r1), (2, va_rf r2), (3, va_rf r3), (4, va_rf r4), (5, .int x5)]) S.1 S.2.1 dL_law_1672 hl (by decide) rfl (fun ls hl => ?_)
  refine mz_aload_n (x := r2) S.1 S.2.1 dL_law_1674 rfl (lv_at hl 3 rfl) ?_
  refine lv_aload_n S.1 S.2.1 dL_law_1675 rfl (lv_at hl 1 rfl) ?_
  refine lv_iload S.1 S.2.1 dL_law_1676 (lv_at hl 6 rfl) ?_
  refine lv_iconst (v := (nI 1)) S.1 S.2.1 dL_law_1678 (by decide) ?_
  refine lv_iadd S.1 S.2.1 dL_law_1679 ?_
  obtain ⟨b464, h⟩ := h
  refine va_sld S.1 S.2.1 hX hbl hbA hS b464 dL_law_1680 ?_
  obtain ⟨a465, e466, h⟩ := h
  refine mz_o1 e466 ?_
  obtain ⟨k467, h⟩ := h
  refine mz_V S hG hM hS cf_10 k467 (As := [.int (xs (x5 + (nI 1)).toNatClampNeg)]) (rest := []) (c_X11_napMinutes h) yf_X11_napMinutes tw_1774 tw_1775 tw_1776 ⟨Nat.le_of_ble_eq_true rfl, Nat.le_of_ble_eq_true rfl⟩ ⟨(by show (654 + 2 * t28) + 0 ≤ 603072; omega), (by show (7585 + 12 * t28) + 0 ≤ 7223402; omega)⟩ rfl hl.1 rfl (Nat.le_of_ble_eq_true rfl) dL_law_1681 (fun v9 μ469 H locs hp hM hS => ?_)
  obtain ⟨u468, rfl, h⟩ := hp
  refine W.cs (cells' := 654 + 2 * t28) (slots' := 7585 + 12 * t28) (by first | omega | (dsimp only; omega)) (by first | omega | (dsimp only; omega)) ?_
  refine lv_istore (lv' := [(7, .int u468), (6, .int u462), (0, .ref o), (1, va_rf r1), (2, va_rf r2), (3, va_rf r3), (4, va_rf r4), (5, .int x5)]) S.1 S.2.1 dL_law_1684 hl (by decide) rfl (fun ls hl => ?_)
  refine mz_aload_n (x := r2) S.1 S.2.1 dL_law_1686 rfl (lv_at hl 4 rfl) ?_
  refine mz_o0 e466 ?_
  obtain ⟨k470, h⟩ := h
  refine mz_V S hG hM hS cf_10 k470 (As := []) (rest := []) (c_X11_thrown h) yf_X11_thrown tw_1543 tw_1544 tw_1545 ⟨Nat.le_of_ble_eq_true rfl, Nat.le_of_ble_eq_true rfl⟩ ⟨(by show (654 + 2 * t28) + 0 ≤ 603072; omega), (by show (7585 + 12 * t28) + 0 ≤ 7223402; omega)⟩ rfl hl.1 rfl (Nat.le_of_ble_eq_true rfl) dL_law_1687 (fun v9 μ9 H locs hp hM hS => ?_)
  obtain ⟨u471, rfl, e9, h⟩ := hp
  rw [e9] at hM
  refine W.cs (cells' := 654 + 2 * t28) (slots' := 7585 + 12 * t28) (by first | omega | (dsimp only; omega)) (by first | omega | (dsimp only; omega)) ?_
  refine lv_iload S.1 S.2.1 dL_law_1690 (lv_at hl 1 rfl) ?_
  refine lv_icmp_eq (tgt := 1697) S.1 S.2.1 dL_law_1692 (by decide) (fun c472 => ?_) (fun c472 => ?_)
  · have h := h.1 c472
    refine lv_iload S.1 S.2.1 dL_law_1697 (lv_at hl 1 rfl) ?_
    refine lv_if_ne (tgt := 1714) S.1 S.2.1 dL_law_1699 (by decide) (fun c473 => ?_) (fun c473 => ?_)
    · have h := h.1 c473
      refine W.widen (k := 654 + 2 * t28) (n := 7585 + 12 * t28) (by omega) (by omega) ?_
      exact cB_L_law_1714 hl0 S hG hX hbl hbA hgh hend K28 kK28 r1 r2 r3 r4 x5 t28 μ469 H locs ls hM hS (lv_sub hl [2, 3, 4, 5, 6, 7] rfl) h
    · have h := h.2 c473
      refine mz_aload_n (x := r3) S.1 S.2.1 dL_law_1702 rfl (lv_at hl 5 rfl) ?_
      refine lv_iconst (v := (nI 0)) S.1 S.2.1 dL_law_1703 (by decide) ?_
      obtain ⟨a474, e475, h⟩ := h
      refine mz_o1 e475 ?_
      obtain ⟨k476, h⟩ := h
      obtain ⟨b477, h⟩ := h
      refine mz_lald S hG hM dL_law_1704 k476 b477 ?_
      refine lv_iload S.1 S.2.1 dL_law_1705 (lv_at hl 0 rfl) ?_
      refine lv_i2l S.1 S.2.1 dL_law_1707 rfl ?_
      refine W.lcmp S.1 S.2.1 dL_law_1708 ?_
      refine lv_if_eq (tgt := 1714) S.1 S.2.1 dL_law_1709 (by decide) (fun c478 => ?_) (fun c478 => ?_)
      · have h := h.1 c478
        refine W.widen (k := 654 + 2 * t28) (n := 7585 + 12 * t28) (by omega) (by omega) ?_
        exact cB_L_law_1714 hl0 S hG hX hbl hbA hgh hend K28 kK28 r1 r2 r3 r4 x5 t28 μ469 H locs ls hM hS (lv_sub hl [2, 3, 4, 5, 6, 7] rfl) h
      · have h := h.2 c478
        refine lv_iconst (v := (nI 0)) S.1 S.2.1 dL_law_1712 (by decide) ?_
        exact h.elim
  · have h := h.2 c472
    refine lv_iconst (v := (nI 0)) S.1 S.2.1 dL_law_1695 (by decide) ?_
    exact h.elim
set_option maxRecDepth 100000 in
set_option maxHeartbeats 4000000 in
theorem cB_L_law_1770 {p : Program} {l : Launch} {e : Env} {s : State} {m : MethodId} {args : Array Value} {below : List Frame} {meth : Method} {c : Code} {Z : State → Prop} {G : mgT} {o L : Nat} {xs : Nat → Int32} (hl0 : l.stackTraces = false) (S : CallFix p m c cL_law 9 s args TT RL) (hG : GK G s s.heap) (hX : va_X o L xs s s.heap) (hbl : o < s.heap.size) (hbA : ¬ Ah G o) (hgh : gh G = s.heap.size) (hend : ∀ (pc : Nat) (H : Heap) (ls : Array Slot), decode cL_law pc = .ok (.ireturn, 1) → W p l e room_1 s m args below meth c H [] 603072 7223402 Z (F0 m pc ls [.int 1])) : ∀ (K28 : Option Nat → Option Nat → Option Nat → Option Nat → Int32 → Nat → mmT → Prop) (kK28 : ∀ (r1 : Option Nat) (r2 : Option Nat) (r3 : Option Nat) (r4 : Option Nat) (x5 : Int32) (t28 : Nat) (μ : mmT) (H : Heap) (locs : List Loc) (ls : Array Slot), Mm G μ H → va_S (Ah G) s.heap H locs → lv_has ls 9 [(0, .ref o), (1, va_rf r1), (2, va_rf r2), (3, va_rf r3), (4, va_rf r4), (5, .int x5)] → K28 r1 r2 r3 r4 x5 t28 μ → W p l e room_1 s m args below meth c H locs (652 + 2 * t28) (7573 + 12 * t28) Z (F0 m 28 ls [])) (r1 : Option Nat) (r2 : Option Nat) (r3 : Option Nat) (r4 : Option Nat) (x5 : Int32) (t28 : Nat) (μ : mmT) (H : Heap) (locs : List Loc) (ls : Array Slot), Mm G μ H → va_S (Ah G) s.heap H locs → lv_has ls 9 [(0, .ref o), (1, va_rf r1), (2, va_rf r2), (3, va_rf r3), (4, va_rf r4), (5, .int x5)] → w_L_law_b1770 G o L xs K28 r1 r2 r3 r4 x5 t28 μ → W p l e room_1 s m args below meth c H locs (654 + 2 * t28) (7585 + 12 * t28) Z (F0 m 1770 ls []) := by
  intro K28 kK28 r1 r2 r3 r4 x5 t28 μ H locs ls hM hS hl h
  unfold w_L_law_b1770 at h
  obtain ⟨ht28, h⟩ := h
  refine lv_goto (tgt := 2766) S.1 S.2.1 dL_law_1770 (by decide) ?_
  refine W.widen (k := 654 + 2 * t28) (n := 7585 + 12 * t28) (by omega) (by omega) ?_
  exact cB_L_law_2766 hl0 S hG hX hbl hbA hgh hend K28 kK28 r1 r2 r3 r4 x5 t28 μ H locs ls hM hS (lv_sub hl [0, 1, 2, 3, 4, 5] rfl) h
set_option maxRecDepth 100000 in
set_option maxHeartbeats 4000000 in
theorem cB_L_law_1717 {p : Program} {l : Launch} {e : Env} {s : State} {m : MethodId} {args : Array Value} {below : List Frame} {meth : Method} {c : Code} {Z : State → Prop} {G : mgT} {o L : Nat} {xs : Nat → Int32} (hl0 : l.stackTraces = false) (S : CallFix p m c cL_law 9 s args TT RL) (hG : GK G s s.heap) (hX : va_X o L xs s s.heap) (hbl : o < s.heap.size) (hbA : ¬ Ah G o) (hgh : gh G = s.heap.size) (hend : ∀ (pc : Nat) (H : Heap) (ls : Array Slot), decode cL_law pc = .ok (.ireturn, 1) → W p l e room_1 s m args below meth c H [] 603072 7223402 Z (F0 m pc ls [.int 1])) : ∀ (K28 : Option Nat → Option Nat → Option Nat → Option Nat → Int32 → Nat → mmT → Prop) (kK28 : ∀ (r1 : Option Nat) (r2 : Option Nat) (r3 : Option Nat) (r4 : Option Nat) (x5 : Int32) (t28 : Nat) (μ : mmT) (H : Heap) (locs : List Loc) (ls : Array Slot), Mm G μ H → va_S (Ah G) s.heap H locs → lv_has ls 9 [(0, .ref o), (1, va_rf r1), (2, va_rf r2), (3, va_rf r3), (4, va_rf r4), (5, .int x5)] → K28 r1 r2 r3 r4 x5 t28 μ → W p l e room_1 s m args below meth c H locs (652 + 2 * t28) (7573 + 12 * t28) Z (F0 m 28 ls [])) (r1 : Option Nat) (r2 : Option Nat) (r3 : Option Nat) (r4 : Option Nat) (x5 : Int32) (t28 : Nat) (μ : mmT) (H : Heap) (locs : List Loc) (ls : Array Slot), Mm G μ H → va_S (Ah G) s.heap H locs → lv_has ls 9 [(0, .ref o), (1, va_rf r1), (2, va_rf r2), (3, va_rf r3), (4, va_rf r4), (5, .int x5)] → w_L_law_b1717 G o L xs K28 r1 r2 r3 r4 x5 t28 μ → W p l e room_1 s m args below meth c H locs (652 + 2 * t28) (7573 + 12 * t28) Z (F0 m 1717 ls []) := by
  intro K28 kK28 r1 r2 r3 r4 x5 t28 μ H locs ls hM hS hl h
  unfold w_L_law_b1717 at h
  obtain ⟨ht28, h⟩ := h
  refine mz_aload_n (x := r1) S.1 S.2.1 dL_law_1717 rfl (lv_at hl 1 rfl) ?_
  refine lv_aload_n S.1 S.2.1 dL_law_1718 rfl (lv_at hl 0 rfl) ?_
  refine lv_iload S.1 S.2.1 dL_law_1719 (lv_at hl 5 rfl) ?_
  refine lv_iconst (v := (nI 1)) S.1 S.2.1 dL_law_1721 (by decide) ?_
  refine lv_iadd S.1 S.2.1 dL_law_1722 ?_
  obtain ⟨b479, h⟩ := h
  refine va_sld S.1 S.2.1 hX hbl hbA hS b479 dL_law_1723 ?_
  refine mz_aload_n (x := r3) S.1 S.2.1 dL_law_1724 rfl (lv_at hl 3 rfl) ?_
  refine mz_SH S hG hM hS (As := [va_rf r1, .int (xs (x5 + (nI 1)).toNatClampNeg), va_rf r3]) (rest := []) (c_L_waitingMessage hl0 h) yh_L_waitingMessage tw_1223 tw_1224 ⟨Nat.le_of_ble_eq_true rfl, Nat.le_of_ble_eq_true rfl⟩ ⟨(by show (652 + 2 * t28) + 1 ≤ 603072; omega), (by show (7573 + 12 * t28) + 6 ≤ 7223402; omega)⟩ rfl hl.1 rfl (Nat.le_of_ble_eq_true rfl) dL_law_1725 (fun v9 μ481 H locs hp hM hS => ?_)
  obtain ⟨u480, rfl, h⟩ := hp
  refine W.cs (cells' := 653 + 2 * t28) (slots' := 7579 + 12 * t28) (by first | omega | (dsimp only; omega)) (by first | omega | (dsimp only; omega)) ?_
  refine lv_istore (lv' := [(6, .int u480), (0, .ref o), (1, va_rf r1), (2, va_rf r2), (3, va_rf r3), (4, va_rf r4), (5, .int x5)]) S.1 S.2.1 dL_law_1728 hl (by decide) rfl (fun ls hl => ?_)
  refine mz_aload_n (x := r2) S.1 S.2.1 dL_law_1730 rfl (lv_at hl 3 rfl) ?_
  refine lv_aload_n S.1 S.2.1 dL_law_1731 rfl (lv_at hl 1 rfl) ?_
  refine lv_iload S.1 S.2.1 dL_law_1732 (lv_at hl 6 rfl) ?_
  refine lv_iconst (v := (nI 1)) S.1 S.2.1 dL_law_1734 (by decide) ?_
  refine lv_iadd S.1 S.2.1 dL_law_1735 ?_
  obtain ⟨b482, h⟩ := h
  refine va_sld S.1 S.2.1 hX hbl hbA hS b482 dL_law_1736 ?_
  obtain ⟨a483, e484, h⟩ := h
  refine mz_o1 e484 ?_
  obtain ⟨k485, h⟩ := h
  refine mz_V S hG hM hS cf_10 k485 (As := [.int (xs (x5 + (nI 1)).toNatClampNeg)]) (rest := []) (c_X11_waitingMessage h) yf_X11_waitingMessage tw_1778 tw_1779 tw_1780 ⟨Nat.le_of_ble_eq_true rfl, Nat.le_of_ble_eq_true rfl⟩ ⟨(by show (653 + 2 * t28) + 0 ≤ 603072; omega), (by show (7579 + 12 * t28) + 0 ≤ 7223402; omega)⟩ rfl hl.1 rfl (Nat.le_of_ble_eq_true rfl) dL_law_1737 (fun v9 μ487 H locs hp hM hS => ?_)
  obtain ⟨u486, rfl, h⟩ := hp
  refine W.cs (cells' := 653 + 2 * t28) (slots' := 7579 + 12 * t28) (by first | omega | (dsimp only; omega)) (by first | omega | (dsimp only; omega)) ?_
  refine lv_istore (lv' := [(7, .int u486), (6, .int u480), (0, .ref o), (1, va_rf r1), (2, va_rf r2), (3, va_rf r3), (4, va_rf r4), (5, .int x5)]) S.1 S.2.1 dL_law_1740 hl (by decide) rfl (fun ls hl => ?_)
  refine mz_aload_n (x := r2) S.1 S.2.1 dL_law_1742 rfl (lv_at hl 4 rfl) ?_
  refine mz_o0 e484 ?_
  obtain ⟨k488, h⟩ := h
  refine mz_V S hG hM hS cf_10 k488 (As := []) (rest := []) (c_X11_thrown h) yf_X11_thrown tw_1543 tw_1544 tw_1545 ⟨Nat.le_of_ble_eq_true rfl, Nat.le_of_ble_eq_true rfl⟩ ⟨(by show (653 + 2 * t28) + 0 ≤ 603072; omega), (by show (7579 + 12 * t28) + 0 ≤ 7223402; omega)⟩ rfl hl.1 rfl (Nat.le_of_ble_eq_true rfl) dL_law_1743 (fun v9 μ9 H locs hp hM hS => ?_)
  obtain ⟨u489, rfl, e9, h⟩ := hp
  rw [e9] at hM
  refine W.cs (cells' := 653 + 2 * t28) (slots' := 7579 + 12 * t28) (by first | omega | (dsimp only; omega)) (by first | omega | (dsimp only; omega)) ?_
  refine lv_iload S.1 S.2.1 dL_law_1746 (lv_at hl 1 rfl) ?_
  refine lv_icmp_eq (tgt := 1753) S.1 S.2.1 dL_law_1748 (by decide) (fun c490 => ?_) (fun c490 => ?_)
  · have h := h.1 c490
    refine lv_iload S.1 S.2.1 dL_law_1753 (lv_at hl 1 rfl) ?_
    refine lv_if_ne (tgt := 1770) S.1 S.2.1 dL_law_1755 (by decide) (fun c491 => ?_) (fun c491 => ?_)
    · have h := h.1 c491
      refine W.widen (k := 654 + 2 * t28) (n := 7585 + 12 * t28) (by omega) (by omega) ?_
      exact cB_L_law_1770 hl0 S hG hX hbl hbA hgh hend K28 kK28 r1 r2 r3 r4 x5 t28 μ487 H locs ls hM hS (lv_sub hl [2, 3, 4, 5, 6, 7] rfl) h
    · have h := h.2 c491
      refine mz_aload_n (x := r3) S.1 S.2.1 dL_law_1758 rfl (lv_at hl 5 rfl) ?_
      refine lv_iconst (v := (nI 0)) S.1 S.2.1 dL_law_1759 (by decide) ?_
      obtain ⟨a492, e493, h⟩ := h
      refine mz_o1 e493 ?_
      obtain ⟨k494, h⟩ := h
      obtain ⟨b495, h⟩ := h
      refine mz_lald S hG hM dL_law_1760 k494 b495 ?_
      refine lv_iload S.1 S.2.1 dL_law_1761 (lv_at hl 0 rfl) ?_
      refine lv_i2l S.1 S.2.1 dL_law_1763 rfl ?_
      refine W.lcmp S.1 S.2.1 dL_law_1764 ?_
      refine lv_if_eq (tgt := 1770) S.1 S.2.1 dL_law_1765 (by decide) (fun c496 => ?_) (fun c496 => ?_)
      · have h := h.1 c496
        refine W.widen (k := 654 + 2 * t28) (n := 7585 + 12 * t28) (by omega) (by omega) ?_
        exact cB_L_law_1770 hl0 S hG hX hbl hbA hgh hend K28 kK28 r1 r2 r3 r4 x5 t28 μ487 H locs ls hM hS (lv_sub hl [2, 3, 4, 5, 6, 7] rfl) h
      · have h := h.2 c496
        refine lv_iconst (v := (nI 0)) S.1 S.2.1 dL_law_1768 (by decide) ?_
        exact h.elim
  · have h := h.2 c490
    refine lv_iconst (v := (nI 0)) S.1 S.2.1 dL_law_1751 (by decide) ?_
    exact h.elim
set_option maxRecDepth 100000 in
set_option maxHeartbeats 4000000 in
theorem cB_L_law_1833 {p : Program} {l : Launch} {e : Env} {s : State} {m : MethodId} {args : Array Value} {below : List Frame} {meth : Method} {c : Code} {Z : State → Prop} {G : mgT} {o L : Nat} {xs : Nat → Int32} (hl0 : l.stackTraces = false) (S : CallFix p m c cL_law 9 s args TT RL) (hG : GK G s s.heap) (hX : va_X o L xs s s.heap) (hbl : o < s.heap.size) (hbA : ¬ Ah G o) (hgh : gh G = s.heap.size) (hend : ∀ (pc : Nat) (H : Heap) (ls : Array Slot), decode cL_law pc = .ok (.ireturn, 1) → W p l e room_1 s m args below meth c H [] 603072 7223402 Z (F0 m pc ls [.int 1])) : ∀ (K28 : Option Nat → Option Nat → Option Nat → Option Nat → Int32 → Nat → mmT → Prop) (kK28 : ∀ (r1 : Option Nat) (r2 : Option Nat) (r3 : Option Nat) (r4 : Option Nat) (x5 : Int32) (t28 : Nat) (μ : mmT) (H : Heap) (locs : List Loc) (ls : Array Slot), Mm G μ H → va_S (Ah G) s.heap H locs → lv_has ls 9 [(0, .ref o), (1, va_rf r1), (2, va_rf r2), (3, va_rf r3), (4, va_rf r4), (5, .int x5)] → K28 r1 r2 r3 r4 x5 t28 μ → W p l e room_1 s m args below meth c H locs (652 + 2 * t28) (7573 + 12 * t28) Z (F0 m 28 ls [])) (r1 : Option Nat) (r2 : Option Nat) (r3 : Option Nat) (r4 : Option Nat) (x5 : Int32) (t28 : Nat) (μ : mmT) (H : Heap) (locs : List Loc) (ls : Array Slot), Mm G μ H → va_S (Ah G) s.heap H locs → lv_has ls 9 [(0, .ref o), (1, va_rf r1), (2, va_rf r2), (3, va_rf r3), (4, va_rf r4), (5, .int x5)] → w_L_law_b1833 G o L xs K28 r1 r2 r3 r4 x5 t28 μ → W p l e room_1 s m args below meth c H locs (654 + 2 * t28) (7585 + 12 * t28) Z (F0 m 1833 ls []) := by
  intro K28 kK28 r1 r2 r3 r4 x5 t28 μ H locs ls hM hS hl h
  unfold w_L_law_b1833 at h
  obtain ⟨ht28, h⟩ := h
  refine lv_goto (tgt := 2766) S.1 S.2.1 dL_law_1833 (by decide) ?_
  refine W.widen (k := 654 + 2 * t28) (n := 7585 + 12 * t28) (by omega) (by omega) ?_
  exact cB_L_law_2766 hl0 S hG hX hbl hbA hgh hend K28 kK28 r1 r2 r3 r4 x5 t28 μ H locs ls hM hS (lv_sub hl [0, 1, 2, 3, 4, 5] rfl) h
set_option maxRecDepth 100000 in
set_option maxHeartbeats 4000000 in
theorem cB_L_law_1827 {p : Program} {l : Launch} {e : Env} {s : State} {m : MethodId} {args : Array Value} {below : List Frame} {meth : Method} {c : Code} {Z : State → Prop} {G : mgT} {o L : Nat} {xs : Nat → Int32} (hl0 : l.stackTraces = false) (S : CallFix p m c cL_law 9 s args TT RL) (hG : GK G s s.heap) (hX : va_X o L xs s s.heap) (hbl : o < s.heap.size) (hbA : ¬ Ah G o) (hgh : gh G = s.heap.size) (hend : ∀ (pc : Nat) (H : Heap) (ls : Array Slot), decode cL_law pc = .ok (.ireturn, 1) → W p l e room_1 s m args below meth c H [] 603072 7223402 Z (F0 m pc ls [.int 1])) : ∀ (K28 : Option Nat → Option Nat → Option Nat → Option Nat → Int32 → Nat → mmT → Prop) (kK28 : ∀ (r1 : Option Nat) (r2 : Option Nat) (r3 : Option Nat) (r4 : Option Nat) (x5 : Int32) (t28 : Nat) (μ : mmT) (H : Heap) (locs : List Loc) (ls : Array Slot), Mm G μ H → va_S (Ah G) s.heap H locs → lv_has ls 9 [(0, .ref o), (1, va_rf r1), (2, va_rf r2), (3, va_rf r3), (4, va_rf r4), (5, .int x5)] → K28 r1 r2 r3 r4 x5 t28 μ → W p l e room_1 s m args below meth c H locs (652 + 2 * t28) (7573 + 12 * t28) Z (F0 m 28 ls [])) (r1 : Option Nat) (r2 : Option Nat) (r3 : Option Nat) (r4 : Option Nat) (x5 : Int32) (s0 : Int64) (s1 : Int64) (t28 : Nat) (μ : mmT) (H : Heap) (locs : List Loc) (ls : Array Slot), Mm G μ H → va_S (Ah G) s.heap H locs → lv_has ls 9 [(0, .ref o), (1, va_rf r1), (2, va_rf r2), (3, va_rf r3), (4, va_rf r4), (5, .int x5)] → w_L_law_b1827 G o L xs K28 r1 r2 r3 r4 x5 s0 s1 t28 μ → W p l e room_1 s m args below meth c H locs (654 + 2 * t28) (7585 + 12 * t28) Z (F0 m 1827 ls [.long s1, .long s0]) := by
  intro K28 kK28 r1 r2 r3 r4 x5 s0 s1 t28 μ H locs ls hM hS hl h
  unfold w_L_law_b1827 at h
  obtain ⟨ht28, h⟩ := h
  refine W.lcmp S.1 S.2.1 dL_law_1827 ?_
  refine lv_if_eq (tgt := 1833) S.1 S.2.1 dL_law_1828 (by decide) (fun c515 => ?_) (fun c515 => ?_)
  · have h := h.1 c515
    refine W.widen (k := 654 + 2 * t28) (n := 7585 + 12 * t28) (by omega) (by omega) ?_
    exact cB_L_law_1833 hl0 S hG hX hbl hbA hgh hend K28 kK28 r1 r2 r3 r4 x5 t28 μ H locs ls hM hS (lv_sub hl [0, 1, 2, 3, 4, 5] rfl) h
  · have h := h.2 c515
    refine lv_iconst (v := (nI 0)) S.1 S.2.1 dL_law_1831 (by decide) ?_
    exact h.elim
set_option maxRecDepth 100000 in
set_option maxHeartbeats 4000000 in
theorem cB_L_law_1773 {p : Program} {l : Launch} {e : Env} {s : State} {m : MethodId} {args : Array Value} {below : List Frame} {meth : Method} {c : Code} {Z : State → Prop} {G : mgT} {o L : Nat} {xs : Nat → Int32} (hl0 : l.stackTraces = false) (S : CallFix p m c cL_law 9 s args TT RL) (hG : GK G s s.heap) (hX : va_X o L xs s s.heap) (hbl : o < s.heap.size) (hbA : ¬ Ah G o) (hgh : gh G = s.heap.size) (hend : ∀ (pc : Nat) (H : Heap) (ls : Array Slot), decode cL_law pc = .ok (.ireturn, 1) → W p l e room_1 s m args below meth c H [] 603072 7223402 Z (F0 m pc ls [.int 1])) : ∀ (K28 : Option Nat → Option Nat → Option Nat → Option Nat → Int32 → Nat → mmT → Prop) (kK28 : ∀ (r1 : Option Nat) (r2 : Option Nat) (r3 : Option Nat) (r4 : Option Nat) (x5 : Int32) (t28 : Nat) (μ : mmT) (H : Heap) (locs : List Loc) (ls : Array Slot), Mm G μ H → va_S (Ah G) s.heap H locs → lv_has ls 9 [(0, .ref o), (1, va_rf r1), (2, va_rf r2), (3, va_rf r3), (4, va_rf r4), (5, .int x5)] → K28 r1 r2 r3 r4 x5 t28 μ → W p l e room_1 s m args below meth c H locs (652 + 2 * t28) (7573 + 12 * t28) Z (F0 m 28 ls [])) (r1 : Option Nat) (r2 : Option Nat) (r3 : Option Nat) (r4 : Option Nat) (x5 : Int32) (t28 : Nat) (μ : mmT) (H : Heap) (locs : List Loc) (ls : Array Slot), Mm G μ H → va_S (Ah G) s.heap H locs → lv_has ls 9 [(0, .ref o), (1, va_rf r1), (2, va_rf r2), (3, va_rf r3), (4, va_rf r4), (5, .int x5)] → w_L_law_b1773 G o L xs K28 r1 r2 r3 r4 x5 t28 μ → W p l e room_1 s m args below meth c H locs (652 + 2 * t28) (7573 + 12 * t28) Z (F0 m 1773 ls []) := by
  intro K28 kK28 r1 r2 r3 r4 x5 t28 μ H locs ls hM hS hl h
  unfold w_L_law_b1773 at h
  obtain ⟨ht28, h⟩ := h
  refine mz_aload_n (x := r1) S.1 S.2.1 dL_law_1773 rfl (lv_at hl 1 rfl) ?_
  refine lv_aload_n S.1 S.2.1 dL_law_1774 rfl (lv_at hl 0 rfl) ?_
  refine lv_iload S.1 S.2.1 dL_law_1775 (lv_at hl 5 rfl) ?_
  refine lv_iconst (v := (nI 1)) S.1 S.2.1 dL_law_1777 (by decide) ?_
  refine lv_iadd S.1 S.2.1 dL_law_1778 ?_
  obtain ⟨b497, h⟩ := h
  refine va_sld S.1 S.2.1 hX hbl hbA hS b497 dL_law_1779 ?_
  refine mz_aload_n (x := r3) S.1 S.2.1 dL_law_1780 rfl (lv_at hl 3 rfl) ?_
  refine mz_SH S hG hM hS (As := [va_rf r1, .int (xs (x5 + (nI 1)).toNatClampNeg), va_rf r3]) (rest := []) (c_L_wouldBeLost hl0 h) yh_L_wouldBeLost tw_1231 tw_1232 ⟨Nat.le_of_ble_eq_true rfl, Nat.le_of_ble_eq_true rfl⟩ ⟨(by show (652 + 2 * t28) + 2 ≤ 603072; omega), (by show (7573 + 12 * t28) + 12 ≤ 7223402; omega)⟩ rfl hl.1 rfl (Nat.le_of_ble_eq_true rfl) dL_law_1781 (fun v9 μ499 H locs hp hM hS => ?_)
  obtain ⟨u498, rfl, h⟩ := hp
  refine W.cs (cells' := 654 + 2 * t28) (slots' := 7585 + 12 * t28) (by first | omega | (dsimp only; omega)) (by first | omega | (dsimp only; omega)) ?_
  refine lv_istore (lv' := [(6, .int u498), (0, .ref o), (1, va_rf r1), (2, va_rf r2), (3, va_rf r3), (4, va_rf r4), (5, .int x5)]) S.1 S.2.1 dL_law_1784 hl (by decide) rfl (fun ls hl => ?_)
  refine mz_aload_n (x := r2) S.1 S.2.1 dL_law_1786 rfl (lv_at hl 3 rfl) ?_
  refine lv_aload_n S.1 S.2.1 dL_law_1787 rfl (lv_at hl 1 rfl) ?_
  refine lv_iload S.1 S.2.1 dL_law_1788 (lv_at hl 6 rfl) ?_
  refine lv_iconst (v := (nI 1)) S.1 S.2.1 dL_law_1790 (by decide) ?_
  refine lv_iadd S.1 S.2.1 dL_law_1791 ?_
  obtain ⟨b500, h⟩ := h
  refine va_sld S.1 S.2.1 hX hbl hbA hS b500 dL_law_1792 ?_
  obtain ⟨a501, e502, h⟩ := h
  refine mz_o1 e502 ?_
  obtain ⟨k503, h⟩ := h
  refine mz_V S hG hM hS cf_10 k503 (As := [.int (xs (x5 + (nI 1)).toNatClampNeg)]) (rest := []) (c_X11_wouldBeLost h) yf_X11_wouldBeLost tw_1782 tw_1783 tw_1784 ⟨Nat.le_of_ble_eq_true rfl, Nat.le_of_ble_eq_true rfl⟩ ⟨(by show (654 + 2 * t28) + 0 ≤ 603072; omega), (by show (7585 + 12 * t28) + 0 ≤ 7223402; omega)⟩ rfl hl.1 rfl (Nat.le_of_ble_eq_true rfl) dL_law_1793 (fun v9 μ505 H locs hp hM hS => ?_)
  obtain ⟨u504, rfl, h⟩ := hp
  refine W.cs (cells' := 654 + 2 * t28) (slots' := 7585 + 12 * t28) (by first | omega | (dsimp only; omega)) (by first | omega | (dsimp only; omega)) ?_
  refine lv_istore (lv' := [(7, .int u504), (6, .int u498), (0, .ref o), (1, va_rf r1), (2, va_rf r2), (3, va_rf r3), (4, va_rf r4), (5, .int x5)]) S.1 S.2.1 dL_law_1796 hl (by decide) rfl (fun ls hl => ?_)
  refine mz_aload_n (x := r2) S.1 S.2.1 dL_law_1798 rfl (lv_at hl 4 rfl) ?_
  refine mz_o0 e502 ?_
  obtain ⟨k506, h⟩ := h
  refine mz_V S hG hM hS cf_10 k506 (As := []) (rest := []) (c_X11_thrown h) yf_X11_thrown tw_1543 tw_1544 tw_1545 ⟨Nat.le_of_ble_eq_true rfl, Nat.le_of_ble_eq_true rfl⟩ ⟨(by show (654 + 2 * t28) + 0 ≤ 603072; omega), (by show (7585 + 12 * t28) + 0 ≤ 7223402; omega)⟩ rfl hl.1 rfl (Nat.le_of_ble_eq_true rfl) dL_law_1799 (fun v9 μ9 H locs hp hM hS => ?_)
  obtain ⟨u507, rfl, e9, h⟩ := hp
  rw [e9] at hM
  refine W.cs (cells' := 654 + 2 * t28) (slots' := 7585 + 12 * t28) (by first | omega | (dsimp only; omega)) (by first | omega | (dsimp only; omega)) ?_
  refine lv_iload S.1 S.2.1 dL_law_1802 (lv_at hl 1 rfl) ?_
  refine lv_icmp_eq (tgt := 1809) S.1 S.2.1 dL_law_1804 (by decide) (fun c508 => ?_) (fun c508 => ?_)
  · have h := h.1 c508
    refine lv_iload S.1 S.2.1 dL_law_1809 (lv_at hl 1 rfl) ?_
    refine lv_if_ne (tgt := 1833) S.1 S.2.1 dL_law_1811 (by decide) (fun c509 => ?_) (fun c509 => ?_)
    · have h := h.1 c509
      refine W.widen (k := 654 + 2 * t28) (n := 7585 + 12 * t28) (by omega) (by omega) ?_
      exact cB_L_law_1833 hl0 S hG hX hbl hbA hgh hend K28 kK28 r1 r2 r3 r4 x5 t28 μ505 H locs ls hM hS (lv_sub hl [2, 3, 4, 5, 6, 7] rfl) h
    · have h := h.2 c509
      refine mz_aload_n (x := r3) S.1 S.2.1 dL_law_1814 rfl (lv_at hl 5 rfl) ?_
      refine lv_iconst (v := (nI 0)) S.1 S.2.1 dL_law_1815 (by decide) ?_
      obtain ⟨a510, e511, h⟩ := h
      refine mz_o1 e511 ?_
      obtain ⟨k512, h⟩ := h
      obtain ⟨b513, h⟩ := h
      refine mz_lald S hG hM dL_law_1816 k512 b513 ?_
      refine lv_iload S.1 S.2.1 dL_law_1817 (lv_at hl 0 rfl) ?_
      refine lv_if_eq (tgt := 1826) S.1 S.2.1 dL_law_1819 (by decide) (fun c514 => ?_) (fun c514 => ?_)
      · have h := h.1 c514
        refine lv_lconst (v := lN 0) S.1 S.2.1 dL_law_1826 rfl ?_
        refine W.widen (k := 654 + 2 * t28) (n := 7585 + 12 * t28) (by omega) (by omega) ?_
        exact cB_L_law_1827 hl0 S hG hX hbl hbA hgh hend K28 kK28 r1 r2 r3 r4 x5 (mL μ505 a510 (nI 0).toNatClampNeg) (lN 0) t28 μ505 H locs ls hM hS (lv_sub hl [2, 3, 4, 5, 6, 7] rfl) h
      · have h := h.2 c514
        refine lv_lconst (v := lN 1) S.1 S.2.1 dL_law_1822 rfl ?_
        refine lv_goto (tgt := 1827) S.1 S.2.1 dL_law_1823 (by decide) ?_
        refine W.widen (k := 654 + 2 * t28) (n := 7585 + 12 * t28) (by omega) (by omega) ?_
        exact cB_L_law_1827 hl0 S hG hX hbl hbA hgh hend K28 kK28 r1 r2 r3 r4 x5 (mL μ505 a510 (nI 0).toNatClampNeg) (lN 1) t28 μ505 H locs ls hM hS (lv_sub hl [2, 3, 4, 5, 6, 7] rfl) h
  · have h := h.2 c508
    refine lv_iconst (v := (nI 0)) S.1 S.2.1 dL_law_1807 (by decide) ?_
    exact h.elim
set_option maxRecDepth 100000 in
set_option maxHeartbeats 4000000 in
theorem cB_L_law_1888 {p : Program} {l : Launch} {e : Env} {s : State} {m : MethodId} {args : Array Value} {below : List Frame} {meth : Method} {c : Code} {Z : State → Prop} {G : mgT} {o L : Nat} {xs : Nat → Int32} (hl0 : l.stackTraces = false) (S : CallFix p m c cL_law 9 s args TT RL) (hG : GK G s s.heap) (hX : va_X o L xs s s.heap) (hbl : o < s.heap.size) (hbA : ¬ Ah G o) (hgh : gh G = s.heap.size) (hend : ∀ (pc : Nat) (H : Heap) (ls : Array Slot), decode cL_law pc = .ok (.ireturn, 1) → W p l e room_1 s m args below meth c H [] 603072 7223402 Z (F0 m pc ls [.int 1])) : ∀ (K28 : Option Nat → Option Nat → Option Nat → Option Nat → Int32 → Nat → mmT → Prop) (kK28 : ∀ (r1 : Option Nat) (r2 : Option Nat) (r3 : Option Nat) (r4 : Option Nat) (x5 : Int32) (t28 : Nat) (μ : mmT) (H : Heap) (locs : List Loc) (ls : Array Slot), Mm G μ H → va_S (Ah G) s.heap H locs → lv_has ls 9 [(0, .ref o), (1, va_rf r1), (2, va_rf r2), (3, va_rf r3), (4, va_rf r4), (5, .int x5)] → K28 r1 r2 r3 r4 x5 t28 μ → W p l e room_1 s m args below meth c H locs (652 + 2 * t28) (7573 + 12 * t28) Z (F0 m 28 ls [])) (r1 : Option Nat) (r2 : Option Nat) (r3 : Option Nat) (r4 : Option Nat) (x5 : Int32) (t28 : Nat) (μ : mmT) (H : Heap) (locs : List Loc) (ls : Array Slot), Mm G μ H → va_S (Ah G) s.heap H locs → lv_has ls 9 [(0, .ref o), (1, va_rf r1), (2, va_rf r2), (3, va_rf r3), (4, va_rf r4), (5, .int x5)] → w_L_law_b1888 G o L xs K28 r1 r2 r3 r4 x5 t28 μ → W p l e room_1 s m args below meth c H locs (654 + 2 * t28) (7585 + 12 * t28) Z (F0 m 1888 ls []) := by
  intro K28 kK28 r1 r2 r3 r4 x5 t28 μ H locs ls hM hS hl h
  unfold w_L_law_b1888 at h
  obtain ⟨ht28, h⟩ := h
  refine lv_goto (tgt := 2766) S.1 S.2.1 dL_law_1888 (by decide) ?_
  refine W.widen (k := 654 + 2 * t28) (n := 7585 + 12 * t28) (by omega) (by omega) ?_
  exact cB_L_law_2766 hl0 S hG hX hbl hbA hgh hend K28 kK28 r1 r2 r3 r4 x5 t28 μ H locs ls hM hS (lv_sub hl [0, 1, 2, 3, 4, 5] rfl) h
set_option maxRecDepth 100000 in
set_option maxHeartbeats 4000000 in
theorem cB_L_law_1836 {p : Program} {l : Launch} {e : Env} {s : State} {m : MethodId} {args : Array Value} {below : List Frame} {meth : Method} {c : Code} {Z : State → Prop} {G : mgT} {o L : Nat} {xs : Nat → Int32} (hl0 : l.stackTraces = false) (S : CallFix p m c cL_law 9 s args TT RL) (hG : GK G s s.heap) (hX : va_X o L xs s s.heap) (hbl : o < s.heap.size) (hbA : ¬ Ah G o) (hgh : gh G = s.heap.size) (hend : ∀ (pc : Nat) (H : Heap) (ls : Array Slot), decode cL_law pc = .ok (.ireturn, 1) → W p l e room_1 s m args below meth c H [] 603072 7223402 Z (F0 m pc ls [.int 1])) : ∀ (K28 : Option Nat → Option Nat → Option Nat → Option Nat → Int32 → Nat → mmT → Prop) (kK28 : ∀ (r1 : Option Nat) (r2 : Option Nat) (r3 : Option Nat) (r4 : Option Nat) (x5 : Int32) (t28 : Nat) (μ : mmT) (H : Heap) (locs : List Loc) (ls : Array Slot), Mm G μ H → va_S (Ah G) s.heap H locs → lv_has ls 9 [(0, .ref o), (1, va_rf r1), (2, va_rf r2), (3, va_rf r3), (4, va_rf r4), (5, .int x5)] → K28 r1 r2 r3 r4 x5 t28 μ → W p l e room_1 s m args below meth c H locs (652 + 2 * t28) (7573 + 12 * t28) Z (F0 m 28 ls [])) (r1 : Option Nat) (r2 : Option Nat) (r3 : Option Nat) (r4 : Option Nat) (x5 : Int32) (t28 : Nat) (μ : mmT) (H : Heap) (locs : List Loc) (ls : Array Slot), Mm G μ H → va_S (Ah G) s.heap H locs → lv_has ls 9 [(0, .ref o), (1, va_rf r1), (2, va_rf r2), (3, va_rf r3), (4, va_rf r4), (5, .int x5)] → w_L_law_b1836 G o L xs K28 r1 r2 r3 r4 x5 t28 μ → W p l e room_1 s m args below meth c H locs (652 + 2 * t28) (7573 + 12 * t28) Z (F0 m 1836 ls []) := by
  intro K28 kK28 r1 r2 r3 r4 x5 t28 μ H locs ls hM hS hl h
  unfold w_L_law_b1836 at h
  obtain ⟨ht28, h⟩ := h
  refine mz_aload_n (x := r1) S.1 S.2.1 dL_law_1836 rfl (lv_at hl 1 rfl) ?_
  refine lv_aload_n S.1 S.2.1 dL_law_1837 rfl (lv_at hl 0 rfl) ?_
  refine lv_iload S.1 S.2.1 dL_law_1838 (lv_at hl 5 rfl) ?_
  refine lv_iconst (v := (nI 1)) S.1 S.2.1 dL_law_1840 (by decide) ?_
  refine lv_iadd S.1 S.2.1 dL_law_1841 ?_
  obtain ⟨b516, h⟩ := h
  refine va_sld S.1 S.2.1 hX hbl hbA hS b516 dL_law_1842 ?_
  refine mz_aload_n (x := r3) S.1 S.2.1 dL_law_1843 rfl (lv_at hl 3 rfl) ?_
  refine mz_SH S hG hM hS (As := [va_rf r1, .int (xs (x5 + (nI 1)).toNatClampNeg), va_rf r3]) (rest := []) (c_L_napLength hl0 h) yh_L_napLength tw_1240 tw_1241 ⟨Nat.le_of_ble_eq_true rfl, Nat.le_of_ble_eq_true rfl⟩ ⟨(by show (652 + 2 * t28) + 1 ≤ 603072; omega), (by show (7573 + 12 * t28) + 6 ≤ 7223402; omega)⟩ rfl hl.1 rfl (Nat.le_of_ble_eq_true rfl) dL_law_1844 (fun v9 μ518 H locs hp hM hS => ?_)
  obtain ⟨u517, rfl, h⟩ := hp
  refine W.cs (cells' := 653 + 2 * t28) (slots' := 7579 + 12 * t28) (by first | omega | (dsimp only; omega)) (by first | omega | (dsimp only; omega)) ?_
  refine lv_istore (lv' := [(6, .int u517), (0, .ref o), (1, va_rf r1), (2, va_rf r2), (3, va_rf r3), (4, va_rf r4), (5, .int x5)]) S.1 S.2.1 dL_law_1847 hl (by decide) rfl (fun ls hl => ?_)
  refine mz_aload_n (x := r2) S.1 S.2.1 dL_law_1849 rfl (lv_at hl 3 rfl) ?_
  refine lv_aload_n S.1 S.2.1 dL_law_1850 rfl (lv_at hl 1 rfl) ?_
  refine lv_iload S.1 S.2.1 dL_law_1851 (lv_at hl 6 rfl) ?_
  refine lv_iconst (v := (nI 1)) S.1 S.2.1 dL_law_1853 (by decide) ?_
  refine lv_iadd S.1 S.2.1 dL_law_1854 ?_
  obtain ⟨b519, h⟩ := h
  refine va_sld S.1 S.2.1 hX hbl hbA hS b519 dL_law_1855 ?_
  obtain ⟨a520, e521, h⟩ := h
  refine mz_o1 e521 ?_
  obtain ⟨k522, h⟩ := h
  refine mz_V S hG hM hS cf_10 k522 (As := [.int (xs (x5 + (nI 1)).toNatClampNeg)]) (rest := []) (c_X11_napLength h) yf_X11_napLength tw_1786 tw_1787 tw_1788 ⟨Nat.le_of_ble_eq_true rfl, Nat.le_of_ble_eq_true rfl⟩ ⟨(by show (653 + 2 * t28) + 0 ≤ 603072; omega), (by show (7579 + 12 * t28) + 0 ≤ 7223402; omega)⟩ rfl hl.1 rfl (Nat.le_of_ble_eq_true rfl) dL_law_1856 (fun v9 μ524 H locs hp hM hS => ?_)
  obtain ⟨u523, rfl, h⟩ := hp
  refine W.cs (cells' := 653 + 2 * t28) (slots' := 7579 + 12 * t28) (by first | omega | (dsimp only; omega)) (by first | omega | (dsimp only; omega)) ?_
  refine lv_lstore (lv' := [(7, .long u523), (6, .int u517), (0, .ref o), (1, va_rf r1), (2, va_rf r2), (3, va_rf r3), (4, va_rf r4), (5, .int x5)]) S.1 S.2.1 dL_law_1859 hl (by decide) rfl (fun ls hl => ?_)
  refine mz_aload_n (x := r2) S.1 S.2.1 dL_law_1861 rfl (lv_at hl 4 rfl) ?_
  refine mz_o0 e521 ?_
  obtain ⟨k525, h⟩ := h
  refine mz_V S hG hM hS cf_10 k525 (As := []) (rest := []) (c_X11_thrown h) yf_X11_thrown tw_1543 tw_1544 tw_1545 ⟨Nat.le_of_ble_eq_true rfl, Nat.le_of_ble_eq_true rfl⟩ ⟨(by show (653 + 2 * t28) + 0 ≤ 603072; omega), (by show (7579 + 12 * t28) + 0 ≤ 7223402; omega)⟩ rfl hl.1 rfl (Nat.le_of_ble_eq_true rfl) dL_law_1862 (fun v9 μ9 H locs hp hM hS => ?_)
  obtain ⟨u526, rfl, e9, h⟩ := hp
  rw [e9] at hM
  refine W.cs (cells' := 653 + 2 * t28) (slots' := 7579 + 12 * t28) (by first | omega | (dsimp only; omega)) (by first | omega | (dsimp only; omega)) ?_
  refine lv_iload S.1 S.2.1 dL_law_1865 (lv_at hl 1 rfl) ?_
  refine lv_icmp_eq (tgt := 1872) S.1 S.2.1 dL_law_1867 (by decide) (fun c527 => ?_) (fun c527 => ?_)
  · have h := h.1 c527
    refine lv_iload S.1 S.2.1 dL_law_1872 (lv_at hl 1 rfl) ?_
    refine lv_if_ne (tgt := 1888) S.1 S.2.1 dL_law_1874 (by decide) (fun c528 => ?_) (fun c528 => ?_)
    · have h := h.1 c528
      refine W.widen (k := 654 + 2 * t28) (n := 7585 + 12 * t28) (by omega) (by omega) ?_
      exact cB_L_law_1888 hl0 S hG hX hbl hbA hgh hend K28 kK28 r1 r2 r3 r4 x5 t28 μ524 H locs ls hM hS (lv_sub hl [2, 3, 4, 5, 6, 7] rfl) h
    · have h := h.2 c528
      refine mz_aload_n (x := r3) S.1 S.2.1 dL_law_1877 rfl (lv_at hl 5 rfl) ?_
      refine lv_iconst (v := (nI 0)) S.1 S.2.1 dL_law_1878 (by decide) ?_
      obtain ⟨a529, e530, h⟩ := h
      refine mz_o1 e530 ?_
      obtain ⟨k531, h⟩ := h
      obtain ⟨b532, h⟩ := h
      refine mz_lald S hG hM dL_law_1879 k531 b532 ?_
      refine lv_lload S.1 S.2.1 dL_law_1880 (lv_at hl 0 rfl) ?_
      refine W.lcmp S.1 S.2.1 dL_law_1882 ?_
      refine lv_if_eq (tgt := 1888) S.1 S.2.1 dL_law_1883 (by decide) (fun c533 => ?_) (fun c533 => ?_)
      · have h := h.1 c533
        refine W.widen (k := 654 + 2 * t28) (n := 7585 + 12 * t28) (by omega) (by omega) ?_
        exact cB_L_law_1888 hl0 S hG hX hbl hbA hgh hend K28 kK28 r1 r2 r3 r4 x5 t28 μ524 H locs ls hM hS (lv_sub hl [2, 3, 4, 5, 6, 7] rfl) h
      · have h := h.2 c533
        refine lv_iconst (v := (nI 0)) S.1 S.2.1 dL_law_1886 (by decide) ?_
        exact h.elim
  · have h := h.2 c527
    refine lv_iconst (v := (nI 0)) S.1 S.2.1 dL_law_1870 (by decide) ?_
    exact h.elim
set_option maxRecDepth 100000 in
set_option maxHeartbeats 4000000 in
theorem cB_L_law_1943 {p : Program} {l : Launch} {e : Env} {s : State} {m : MethodId} {args : Array Value} {below : List Frame} {meth : Method} {c : Code} {Z : State → Prop} {G : mgT} {o L : Nat} {xs : Nat → Int32} (hl0 : l.stackTraces = false) (S : CallFix p m c cL_law 9 s args TT RL) (hG : GK G s s.heap) (hX : va_X o L xs s s.heap) (hbl : o < s.heap.size) (hbA : ¬ Ah G o) (hgh : gh G = s.heap.size) (hend : ∀ (pc : Nat) (H : Heap) (ls : Array Slot), decode cL_law pc = .ok (.ireturn, 1) → W p l e room_1 s m args below meth c H [] 603072 7223402 Z (F0 m pc ls [.int 1])) : ∀ (K28 : Option Nat → Option Nat → Option Nat → Option Nat → Int32 → Nat → mmT → Prop) (kK28 : ∀ (r1 : Option Nat) (r2 : Option Nat) (r3 : Option Nat) (r4 : Option Nat) (x5 : Int32) (t28 : Nat) (μ : mmT) (H : Heap) (locs : List Loc) (ls : Array Slot), Mm G μ H → va_S (Ah G) s.heap H locs → lv_has ls 9 [(0, .ref o), (1, va_rf r1), (2, va_rf r2), (3, va_rf r3), (4, va_rf r4), (5, .int x5)] → K28 r1 r2 r3 r4 x5 t28 μ → W p l e room_1 s m args below meth c H locs (652 + 2 * t28) (7573 + 12 * t28) Z (F0 m 28 ls [])) (r1 : Option Nat) (r2 : Option Nat) (r3 : Option Nat) (r4 : Option Nat) (x5 : Int32) (t28 : Nat) (μ : mmT) (H : Heap) (locs : List Loc) (ls : Array Slot), Mm G μ H → va_S (Ah G) s.heap H locs → lv_has ls 9 [(0, .ref o), (1, va_rf r1), (2, va_rf r2), (3, va_rf r3), (4, va_rf r4), (5, .int x5)] → w_L_law_b1943 G o L xs K28 r1 r2 r3 r4 x5 t28 μ → W p l e room_1 s m args below meth c H locs (654 + 2 * t28) (7585 + 12 * t28) Z (F0 m 1943 ls []) := by
  intro K28 kK28 r1 r2 r3 r4 x5 t28 μ H locs ls hM hS hl h
  unfold w_L_law_b1943 at h
  obtain ⟨ht28, h⟩ := h
  refine lv_goto (tgt := 2766) S.1 S.2.1 dL_law_1943 (by decide) ?_
  refine W.widen (k := 654 + 2 * t28) (n := 7585 + 12 * t28) (by omega) (by omega) ?_
  exact cB_L_law_2766 hl0 S hG hX hbl hbA hgh hend K28 kK28 r1 r2 r3 r4 x5 t28 μ H locs ls hM hS (lv_sub hl [0, 1, 2, 3, 4, 5] rfl) h
set_option maxRecDepth 100000 in
set_option maxHeartbeats 4000000 in
theorem cB_L_law_1891 {p : Program} {l : Launch} {e : Env} {s : State} {m : MethodId} {args : Array Value} {below : List Frame} {meth : Method} {c : Code} {Z : State → Prop} {G : mgT} {o L : Nat} {xs : Nat → Int32} (hl0 : l.stackTraces = false) (S : CallFix p m c cL_law 9 s args TT RL) (hG : GK G s s.heap) (hX : va_X o L xs s s.heap) (hbl : o < s.heap.size) (hbA : ¬ Ah G o) (hgh : gh G = s.heap.size) (hend : ∀ (pc : Nat) (H : Heap) (ls : Array Slot), decode cL_law pc = .ok (.ireturn, 1) → W p l e room_1 s m args below meth c H [] 603072 7223402 Z (F0 m pc ls [.int 1])) : ∀ (K28 : Option Nat → Option Nat → Option Nat → Option Nat → Int32 → Nat → mmT → Prop) (kK28 : ∀ (r1 : Option Nat) (r2 : Option Nat) (r3 : Option Nat) (r4 : Option Nat) (x5 : Int32) (t28 : Nat) (μ : mmT) (H : Heap) (locs : List Loc) (ls : Array Slot), Mm G μ H → va_S (Ah G) s.heap H locs → lv_has ls 9 [(0, .ref o), (1, va_rf r1), (2, va_rf r2), (3, va_rf r3), (4, va_rf r4), (5, .int x5)] → K28 r1 r2 r3 r4 x5 t28 μ → W p l e room_1 s m args below meth c H locs (652 + 2 * t28) (7573 + 12 * t28) Z (F0 m 28 ls [])) (r1 : Option Nat) (r2 : Option Nat) (r3 : Option Nat) (r4 : Option Nat) (x5 : Int32) (t28 : Nat) (μ : mmT) (H : Heap) (locs : List Loc) (ls : Array Slot), Mm G μ H → va_S (Ah G) s.heap H locs → lv_has ls 9 [(0, .ref o), (1, va_rf r1), (2, va_rf r2), (3, va_rf r3), (4, va_rf r4), (5, .int x5)] → w_L_law_b1891 G o L xs K28 r1 r2 r3 r4 x5 t28 μ → W p l e room_1 s m args below meth c H locs (652 + 2 * t28) (7573 + 12 * t28) Z (F0 m 1891 ls []) := by
  intro K28 kK28 r1 r2 r3 r4 x5 t28 μ H locs ls hM hS hl h
  unfold w_L_law_b1891 at h
  obtain ⟨ht28, h⟩ := h
  refine mz_aload_n (x := r1) S.1 S.2.1 dL_law_1891 rfl (lv_at hl 1 rfl) ?_
  refine lv_aload_n S.1 S.2.1 dL_law_1892 rfl (lv_at hl 0 rfl) ?_
  refine lv_iload S.1 S.2.1 dL_law_1893 (lv_at hl 5 rfl) ?_
  refine lv_iconst (v := (nI 1)) S.1 S.2.1 dL_law_1895 (by decide) ?_
  refine lv_iadd S.1 S.2.1 dL_law_1896 ?_
  obtain ⟨b534, h⟩ := h
  refine va_sld S.1 S.2.1 hX hbl hbA hS b534 dL_law_1897 ?_
  refine mz_aload_n (x := r3) S.1 S.2.1 dL_law_1898 rfl (lv_at hl 3 rfl) ?_
  refine mz_SH S hG hM hS (As := [va_rf r1, .int (xs (x5 + (nI 1)).toNatClampNeg), va_rf r3]) (rest := []) (c_L_napLengthByDoubling hl0 h) yh_L_napLengthByDoubling tw_1248 tw_1249 ⟨Nat.le_of_ble_eq_true rfl, Nat.le_of_ble_eq_true rfl⟩ ⟨(by show (652 + 2 * t28) + 1 ≤ 603072; omega), (by show (7573 + 12 * t28) + 6 ≤ 7223402; omega)⟩ rfl hl.1 rfl (Nat.le_of_ble_eq_true rfl) dL_law_1899 (fun v9 μ536 H locs hp hM hS => ?_)
  obtain ⟨u535, rfl, h⟩ := hp
  refine W.cs (cells' := 653 + 2 * t28) (slots' := 7579 + 12 * t28) (by first | omega | (dsimp only; omega)) (by first | omega | (dsimp only; omega)) ?_
  refine lv_istore (lv' := [(6, .int u535), (0, .ref o), (1, va_rf r1), (2, va_rf r2), (3, va_rf r3), (4, va_rf r4), (5, .int x5)]) S.1 S.2.1 dL_law_1902 hl (by decide) rfl (fun ls hl => ?_)
  refine mz_aload_n (x := r2) S.1 S.2.1 dL_law_1904 rfl (lv_at hl 3 rfl) ?_
  refine lv_aload_n S.1 S.2.1 dL_law_1905 rfl (lv_at hl 1 rfl) ?_
  refine lv_iload S.1 S.2.1 dL_law_1906 (lv_at hl 6 rfl) ?_
  refine lv_iconst (v := (nI 1)) S.1 S.2.1 dL_law_1908 (by decide) ?_
  refine lv_iadd S.1 S.2.1 dL_law_1909 ?_
  obtain ⟨b537, h⟩ := h
  refine va_sld S.1 S.2.1 hX hbl hbA hS b537 dL_law_1910 ?_
  obtain ⟨a538, e539, h⟩ := h
  refine mz_o1 e539 ?_
  obtain ⟨k540, h⟩ := h
  refine mz_V S hG hM hS cf_10 k540 (As := [.int (xs (x5 + (nI 1)).toNatClampNeg)]) (rest := []) (c_X11_napLengthByDoubling h) yf_X11_napLengthByDoubling tw_1790 tw_1791 tw_1792 ⟨Nat.le_of_ble_eq_true rfl, Nat.le_of_ble_eq_true rfl⟩ ⟨(by show (653 + 2 * t28) + 0 ≤ 603072; omega), (by show (7579 + 12 * t28) + 0 ≤ 7223402; omega)⟩ rfl hl.1 rfl (Nat.le_of_ble_eq_true rfl) dL_law_1911 (fun v9 μ542 H locs hp hM hS => ?_)
  obtain ⟨u541, rfl, h⟩ := hp
  refine W.cs (cells' := 653 + 2 * t28) (slots' := 7579 + 12 * t28) (by first | omega | (dsimp only; omega)) (by first | omega | (dsimp only; omega)) ?_
  refine lv_lstore (lv' := [(7, .long u541), (6, .int u535), (0, .ref o), (1, va_rf r1), (2, va_rf r2), (3, va_rf r3), (4, va_rf r4), (5, .int x5)]) S.1 S.2.1 dL_law_1914 hl (by decide) rfl (fun ls hl => ?_)
  refine mz_aload_n (x := r2) S.1 S.2.1 dL_law_1916 rfl (lv_at hl 4 rfl) ?_
  refine mz_o0 e539 ?_
  obtain ⟨k543, h⟩ := h
  refine mz_V S hG hM hS cf_10 k543 (As := []) (rest := []) (c_X11_thrown h) yf_X11_thrown tw_1543 tw_1544 tw_1545 ⟨Nat.le_of_ble_eq_true rfl, Nat.le_of_ble_eq_true rfl⟩ ⟨(by show (653 + 2 * t28) + 0 ≤ 603072; omega), (by show (7579 + 12 * t28) + 0 ≤ 7223402; omega)⟩ rfl hl.1 rfl (Nat.le_of_ble_eq_true rfl) dL_law_1917 (fun v9 μ9 H locs hp hM hS => ?_)
  obtain ⟨u544, rfl, e9, h⟩ := hp
  rw [e9] at hM
  refine W.cs (cells' := 653 + 2 * t28) (slots' := 7579 + 12 * t28) (by first | omega | (dsimp only; omega)) (by first | omega | (dsimp only; omega)) ?_
  refine lv_iload S.1 S.2.1 dL_law_1920 (lv_at hl 1 rfl) ?_
  refine lv_icmp_eq (tgt := 1927) S.1 S.2.1 dL_law_1922 (by decide) (fun c545 => ?_) (fun c545 => ?_)
  · have h := h.1 c545
    refine lv_iload S.1 S.2.1 dL_law_1927 (lv_at hl 1 rfl) ?_
    refine lv_if_ne (tgt := 1943) S.1 S.2.1 dL_law_1929 (by decide) (fun c546 => ?_) (fun c546 => ?_)
    · have h := h.1 c546
      refine W.widen (k := 654 + 2 * t28) (n := 7585 + 12 * t28) (by omega) (by omega) ?_
      exact cB_L_law_1943 hl0 S hG hX hbl hbA hgh hend K28 kK28 r1 r2 r3 r4 x5 t28 μ542 H locs ls hM hS (lv_sub hl [2, 3, 4, 5, 6, 7] rfl) h
    · have h := h.2 c546
      refine mz_aload_n (x := r3) S.1 S.2.1 dL_law_1932 rfl (lv_at hl 5 rfl) ?_
      refine lv_iconst (v := (nI 0)) S.1 S.2.1 dL_law_1933 (by decide) ?_
      obtain ⟨a547, e548, h⟩ := h
      refine mz_o1 e548 ?_
      obtain ⟨k549, h⟩ := h
      obtain ⟨b550, h⟩ := h
      refine mz_lald S hG hM dL_law_1934 k549 b550 ?_
      refine lv_lload S.1 S.2.1 dL_law_1935 (lv_at hl 0 rfl) ?_
      refine W.lcmp S.1 S.2.1 dL_law_1937 ?_
      refine lv_if_eq (tgt := 1943) S.1 S.2.1 dL_law_1938 (by decide) (fun c551 => ?_) (fun c551 => ?_)
      · have h := h.1 c551
        refine W.widen (k := 654 + 2 * t28) (n := 7585 + 12 * t28) (by omega) (by omega) ?_
        exact cB_L_law_1943 hl0 S hG hX hbl hbA hgh hend K28 kK28 r1 r2 r3 r4 x5 t28 μ542 H locs ls hM hS (lv_sub hl [2, 3, 4, 5, 6, 7] rfl) h
      · have h := h.2 c551
        refine lv_iconst (v := (nI 0)) S.1 S.2.1 dL_law_1941 (by decide) ?_
        exact h.elim
  · have h := h.2 c545
    refine lv_iconst (v := (nI 0)) S.1 S.2.1 dL_law_1925 (by decide) ?_
    exact h.elim
set_option maxRecDepth 100000 in
set_option maxHeartbeats 4000000 in
theorem cB_L_law_1999 {p : Program} {l : Launch} {e : Env} {s : State} {m : MethodId} {args : Array Value} {below : List Frame} {meth : Method} {c : Code} {Z : State → Prop} {G : mgT} {o L : Nat} {xs : Nat → Int32} (hl0 : l.stackTraces = false) (S : CallFix p m c cL_law 9 s args TT RL) (hG : GK G s s.heap) (hX : va_X o L xs s s.heap) (hbl : o < s.heap.size) (hbA : ¬ Ah G o) (hgh : gh G = s.heap.size) (hend : ∀ (pc : Nat) (H : Heap) (ls : Array Slot), decode cL_law pc = .ok (.ireturn, 1) → W p l e room_1 s m args below meth c H [] 603072 7223402 Z (F0 m pc ls [.int 1])) : ∀ (K28 : Option Nat → Option Nat → Option Nat → Option Nat → Int32 → Nat → mmT → Prop) (kK28 : ∀ (r1 : Option Nat) (r2 : Option Nat) (r3 : Option Nat) (r4 : Option Nat) (x5 : Int32) (t28 : Nat) (μ : mmT) (H : Heap) (locs : List Loc) (ls : Array Slot), Mm G μ H → va_S (Ah G) s.heap H locs → lv_has ls 9 [(0, .ref o), (1, va_rf r1), (2, va_rf r2), (3, va_rf r3), (4, va_rf r4), (5, .int x5)] → K28 r1 r2 r3 r4 x5 t28 μ → W p l e room_1 s m args below meth c H locs (652 + 2 * t28) (7573 + 12 * t28) Z (F0 m 28 ls [])) (r1 : Option Nat) (r2 : Option Nat) (r3 : Option Nat) (r4 : Option Nat) (x5 : Int32) (t28 : Nat) (μ : mmT) (H : Heap) (locs : List Loc) (ls : Array Slot), Mm G μ H → va_S (Ah G) s.heap H locs → lv_has ls 9 [(0, .ref o), (1, va_rf r1), (2, va_rf r2), (3, va_rf r3), (4, va_rf r4), (5, .int x5)] → w_L_law_b1999 G o L xs K28 r1 r2 r3 r4 x5 t28 μ → W p l e room_1 s m args below meth c H locs (654 + 2 * t28) (7585 + 12 * t28) Z (F0 m 1999 ls []) := by
  intro K28 kK28 r1 r2 r3 r4 x5 t28 μ H locs ls hM hS hl h
  unfold w_L_law_b1999 at h
  obtain ⟨ht28, h⟩ := h
  refine lv_goto (tgt := 2766) S.1 S.2.1 dL_law_1999 (by decide) ?_
  refine W.widen (k := 654 + 2 * t28) (n := 7585 + 12 * t28) (by omega) (by omega) ?_
  exact cB_L_law_2766 hl0 S hG hX hbl hbA hgh hend K28 kK28 r1 r2 r3 r4 x5 t28 μ H locs ls hM hS (lv_sub hl [0, 1, 2, 3, 4, 5] rfl) h
set_option maxRecDepth 100000 in
set_option maxHeartbeats 4000000 in
theorem cB_L_law_1946 {p : Program} {l : Launch} {e : Env} {s : State} {m : MethodId} {args : Array Value} {below : List Frame} {meth : Method} {c : Code} {Z : State → Prop} {G : mgT} {o L : Nat} {xs : Nat → Int32} (hl0 : l.stackTraces = false) (S : CallFix p m c cL_law 9 s args TT RL) (hG : GK G s s.heap) (hX : va_X o L xs s s.heap) (hbl : o < s.heap.size) (hbA : ¬ Ah G o) (hgh : gh G = s.heap.size) (hend : ∀ (pc : Nat) (H : Heap) (ls : Array Slot), decode cL_law pc = .ok (.ireturn, 1) → W p l e room_1 s m args below meth c H [] 603072 7223402 Z (F0 m pc ls [.int 1])) : ∀ (K28 : Option Nat → Option Nat → Option Nat → Option Nat → Int32 → Nat → mmT → Prop) (kK28 : ∀ (r1 : Option Nat) (r2 : Option Nat) (r3 : Option Nat) (r4 : Option Nat) (x5 : Int32) (t28 : Nat) (μ : mmT) (H : Heap) (locs : List Loc) (ls : Array Slot), Mm G μ H → va_S (Ah G) s.heap H locs → lv_has ls 9 [(0, .ref o), (1, va_rf r1), (2, va_rf r2), (3, va_rf r3), (4, va_rf r4), (5, .int x5)] → K28 r1 r2 r3 r4 x5 t28 μ → W p l e room_1 s m args below meth c H locs (652 + 2 * t28) (7573 + 12 * t28) Z (F0 m 28 ls [])) (r1 : Option Nat) (r2 : Option Nat) (r3 : Option Nat) (r4 : Option Nat) (x5 : Int32) (t28 : Nat) (μ : mmT) (H : Heap) (locs : List Loc) (ls : Array Slot), Mm G μ H → va_S (Ah G) s.heap H locs → lv_has ls 9 [(0, .ref o), (1, va_rf r1), (2, va_rf r2), (3, va_rf r3), (4, va_rf r4), (5, .int x5)] → w_L_law_b1946 G o L xs K28 r1 r2 r3 r4 x5 t28 μ → W p l e room_1 s m args below meth c H locs (652 + 2 * t28) (7573 + 12 * t28) Z (F0 m 1946 ls []) := by
  intro K28 kK28 r1 r2 r3 r4 x5 t28 μ H locs ls hM hS hl h
  unfold w_L_law_b1946 at h
  obtain ⟨ht28, h⟩ := h
  refine mz_aload_n (x := r1) S.1 S.2.1 dL_law_1946 rfl (lv_at hl 1 rfl) ?_
  refine lv_aload_n S.1 S.2.1 dL_law_1947 rfl (lv_at hl 0 rfl) ?_
  refine lv_iload S.1 S.2.1 dL_law_1948 (lv_at hl 5 rfl) ?_
  refine lv_iconst (v := (nI 1)) S.1 S.2.1 dL_law_1950 (by decide) ?_
  refine lv_iadd S.1 S.2.1 dL_law_1951 ?_
  obtain ⟨b552, h⟩ := h
  refine va_sld S.1 S.2.1 hX hbl hbA hS b552 dL_law_1952 ?_
  refine mz_aload_n (x := r3) S.1 S.2.1 dL_law_1953 rfl (lv_at hl 3 rfl) ?_
  refine mz_SH S hG hM hS (As := [va_rf r1, .int (xs (x5 + (nI 1)).toNatClampNeg), va_rf r3]) (rest := []) (c_L_minutesUntilDelivered hl0 h) yh_L_minutesUntilDelivered tw_1255 tw_1256 ⟨Nat.le_of_ble_eq_true rfl, Nat.le_of_ble_eq_true rfl⟩ ⟨(by show (652 + 2 * t28) + 2 ≤ 603072; omega), (by show (7573 + 12 * t28) + 12 ≤ 7223402; omega)⟩ rfl hl.1 rfl (Nat.le_of_ble_eq_true rfl) dL_law_1954 (fun v9 μ554 H locs hp hM hS => ?_)
  obtain ⟨u553, rfl, h⟩ := hp
  refine W.cs (cells' := 654 + 2 * t28) (slots' := 7585 + 12 * t28) (by first | omega | (dsimp only; omega)) (by first | omega | (dsimp only; omega)) ?_
  refine lv_istore (lv' := [(6, .int u553), (0, .ref o), (1, va_rf r1), (2, va_rf r2), (3, va_rf r3), (4, va_rf r4), (5, .int x5)]) S.1 S.2.1 dL_law_1957 hl (by decide) rfl (fun ls hl => ?_)
  refine mz_aload_n (x := r2) S.1 S.2.1 dL_law_1959 rfl (lv_at hl 3 rfl) ?_
  refine lv_aload_n S.1 S.2.1 dL_law_1960 rfl (lv_at hl 1 rfl) ?_
  refine lv_iload S.1 S.2.1 dL_law_1961 (lv_at hl 6 rfl) ?_
  refine lv_iconst (v := (nI 1)) S.1 S.2.1 dL_law_1963 (by decide) ?_
  refine lv_iadd S.1 S.2.1 dL_law_1964 ?_
  obtain ⟨b555, h⟩ := h
  refine va_sld S.1 S.2.1 hX hbl hbA hS b555 dL_law_1965 ?_
  obtain ⟨a556, e557, h⟩ := h
  refine mz_o1 e557 ?_
  obtain ⟨k558, h⟩ := h
  refine mz_V S hG hM hS cf_10 k558 (As := [.int (xs (x5 + (nI 1)).toNatClampNeg)]) (rest := []) (c_X11_minutesUntilDelivered h) yf_X11_minutesUntilDelivered tw_1795 tw_1796 tw_1797 ⟨Nat.le_of_ble_eq_true rfl, Nat.le_of_ble_eq_true rfl⟩ ⟨(by show (654 + 2 * t28) + 0 ≤ 603072; omega), (by show (7585 + 12 * t28) + 0 ≤ 7223402; omega)⟩ rfl hl.1 rfl (Nat.le_of_ble_eq_true rfl) dL_law_1966 (fun v9 μ560 H locs hp hM hS => ?_)
  obtain ⟨u559, rfl, h⟩ := hp
  refine W.cs (cells' := 654 + 2 * t28) (slots' := 7585 + 12 * t28) (by first | omega | (dsimp only; omega)) (by first | omega | (dsimp only; omega)) ?_
  refine lv_istore (lv' := [(7, .int u559), (6, .int u553), (0, .ref o), (1, va_rf r1), (2, va_rf r2), (3, va_rf r3), (4, va_rf r4), (5, .int x5)]) S.1 S.2.1 dL_law_1969 hl (by decide) rfl (fun ls hl => ?_)
  refine mz_aload_n (x := r2) S.1 S.2.1 dL_law_1971 rfl (lv_at hl 4 rfl) ?_
  refine mz_o0 e557 ?_
  obtain ⟨k561, h⟩ := h
  refine mz_V S hG hM hS cf_10 k561 (As := []) (rest := []) (c_X11_thrown h) yf_X11_thrown tw_1543 tw_1544 tw_1545 ⟨Nat.le_of_ble_eq_true rfl, Nat.le_of_ble_eq_true rfl⟩ ⟨(by show (654 + 2 * t28) + 0 ≤ 603072; omega), (by show (7585 + 12 * t28) + 0 ≤ 7223402; omega)⟩ rfl hl.1 rfl (Nat.le_of_ble_eq_true rfl) dL_law_1972 (fun v9 μ9 H locs hp hM hS => ?_)
  obtain ⟨u562, rfl, e9, h⟩ := hp
  rw [e9] at hM
  refine W.cs (cells' := 654 + 2 * t28) (slots' := 7585 + 12 * t28) (by first | omega | (dsimp only; omega)) (by first | omega | (dsimp only; omega)) ?_
  refine lv_iload S.1 S.2.1 dL_law_1975 (lv_at hl 1 rfl) ?_
  refine lv_icmp_eq (tgt := 1982) S.1 S.2.1 dL_law_1977 (by decide) (fun c563 => ?_) (fun c563 => ?_)
  · have h := h.1 c563
    refine lv_iload S.1 S.2.1 dL_law_1982 (lv_at hl 1 rfl) ?_
    refine lv_if_ne (tgt := 1999) S.1 S.2.1 dL_law_1984 (by decide) (fun c564 => ?_) (fun c564 => ?_)
    · have h := h.1 c564
      refine W.widen (k := 654 + 2 * t28) (n := 7585 + 12 * t28) (by omega) (by omega) ?_
      exact cB_L_law_1999 hl0 S hG hX hbl hbA hgh hend K28 kK28 r1 r2 r3 r4 x5 t28 μ560 H locs ls hM hS (lv_sub hl [2, 3, 4, 5, 6, 7] rfl) h
    · have h := h.2 c564
      refine mz_aload_n (x := r3) S.1 S.2.1 dL_law_1987 rfl (lv_at hl 5 rfl) ?_
      refine lv_iconst (v := (nI 0)) S.1 S.2.1 dL_law_1988 (by decide) ?_
      obtain ⟨a565, e566, h⟩ := h
      refine mz_o1 e566 ?_
      obtain ⟨k567, h⟩ := h
      obtain ⟨b568, h⟩ := h
      refine mz_lald S hG hM dL_law_1989 k567 b568 ?_
      refine lv_iload S.1 S.2.1 dL_law_1990 (lv_at hl 0 rfl) ?_
      refine lv_i2l S.1 S.2.1 dL_law_1992 rfl ?_
      refine W.lcmp S.1 S.2.1 dL_law_1993 ?_
      refine lv_if_eq (tgt := 1999) S.1 S.2.1 dL_law_1994 (by decide) (fun c569 => ?_) (fun c569 => ?_)
      · have h := h.1 c569
        refine W.widen (k := 654 + 2 * t28) (n := 7585 + 12 * t28) (by omega) (by omega) ?_
        exact cB_L_law_1999 hl0 S hG hX hbl hbA hgh hend K28 kK28 r1 r2 r3 r4 x5 t28 μ560 H locs ls hM hS (lv_sub hl [2, 3, 4, 5, 6, 7] rfl) h
      · have h := h.2 c569
        refine lv_iconst (v := (nI 0)) S.1 S.2.1 dL_law_1997 (by decide) ?_
        exact h.elim
  · have h := h.2 c563
    refine lv_iconst (v := (nI 0)) S.1 S.2.1 dL_law_1980 (by decide) ?_
    exact h.elim
set_option maxRecDepth 100000 in
set_option maxHeartbeats 4000000 in
theorem cB_L_law_2002 {p : Program} {l : Launch} {e : Env} {s : State} {m : MethodId} {args : Array Value} {below : List Frame} {meth : Method} {c : Code} {Z : State → Prop} {G : mgT} {o L : Nat} {xs : Nat → Int32} (hl0 : l.stackTraces = false) (S : CallFix p m c cL_law 9 s args TT RL) (hG : GK G s s.heap) (hX : va_X o L xs s s.heap) (hbl : o < s.heap.size) (hbA : ¬ Ah G o) (hgh : gh G = s.heap.size) (hend : ∀ (pc : Nat) (H : Heap) (ls : Array Slot), decode cL_law pc = .ok (.ireturn, 1) → W p l e room_1 s m args below meth c H [] 603072 7223402 Z (F0 m pc ls [.int 1])) : ∀ (K28 : Option Nat → Option Nat → Option Nat → Option Nat → Int32 → Nat → mmT → Prop) (kK28 : ∀ (r1 : Option Nat) (r2 : Option Nat) (r3 : Option Nat) (r4 : Option Nat) (x5 : Int32) (t28 : Nat) (μ : mmT) (H : Heap) (locs : List Loc) (ls : Array Slot), Mm G μ H → va_S (Ah G) s.heap H locs → lv_has ls 9 [(0, .ref o), (1, va_rf r1), (2, va_rf r2), (3, va_rf r3), (4, va_rf r4), (5, .int x5)] → K28 r1 r2 r3 r4 x5 t28 μ → W p l e room_1 s m args below meth c H locs (652 + 2 * t28) (7573 + 12 * t28) Z (F0 m 28 ls [])) (r1 : Option Nat) (r2 : Option Nat) (r3 : Option Nat) (r4 : Option Nat) (x5 : Int32) (t28 : Nat) (μ : mmT) (H : Heap) (locs : List Loc) (ls : Array Slot), Mm G μ H → va_S (Ah G) s.heap H locs → lv_has ls 9 [(0, .ref o), (1, va_rf r1), (2, va_rf r2), (3, va_rf r3), (4, va_rf r4), (5, .int x5)] → w_L_law_b2002 G o L xs K28 r1 r2 r3 r4 x5 t28 μ → W p l e room_1 s m args below meth c H locs (652 + 2 * t28) (7573 + 12 * t28) Z (F0 m 2002 ls []) := by
  intro K28 kK28 r1 r2 r3 r4 x5 t28 μ H locs ls hM hS hl h
  unfold w_L_law_b2002 at h
  obtain ⟨ht28, h⟩ := h
  refine mz_aload_n (x := r1) S.1 S.2.1 dL_law_2002 rfl (lv_at hl 1 rfl) ?_
  obtain ⟨a570, e571, h⟩ := h
  refine mz_o0 e571 ?_
  obtain ⟨k572, h⟩ := h
  refine mz_V S hG hM hS cf_9 k572 (As := []) (rest := []) (c_X10_time h) yf_X10_time tw_390 tw_391 tw_392 ⟨Nat.le_of_ble_eq_true rfl, Nat.le_of_ble_eq_true rfl⟩ ⟨(by show (652 + 2 * t28) + 0 ≤ 603072; omega), (by show (7573 + 12 * t28) + 0 ≤ 7223402; omega)⟩ rfl hl.1 rfl (Nat.le_of_ble_eq_true rfl) dL_law_2003 (fun v9 μ9 H locs hp hM hS => ?_)
  obtain ⟨u573, rfl, e9, h⟩ := hp
  rw [e9] at hM
  refine W.cs (cells' := 652 + 2 * t28) (slots' := 7573 + 12 * t28) (by first | omega | (dsimp only; omega)) (by first | omega | (dsimp only; omega)) ?_
  refine mz_aload_n (x := r2) S.1 S.2.1 dL_law_2006 rfl (lv_at hl 2 rfl) ?_
  obtain ⟨a574, e575, h⟩ := h
  refine mz_o0 e575 ?_
  obtain ⟨k576, h⟩ := h
  refine mz_V S hG hM hS cf_10 k576 (As := []) (rest := [.int u573]) (c_X11_time h) yf_X11_time tw_1799 tw_1800 tw_1801 ⟨Nat.le_of_ble_eq_true rfl, Nat.le_of_ble_eq_true rfl⟩ ⟨(by show (652 + 2 * t28) + 0 ≤ 603072; omega), (by show (7573 + 12 * t28) + 0 ≤ 7223402; omega)⟩ rfl hl.1 rfl (Nat.le_of_ble_eq_true rfl) dL_law_2007 (fun v9 μ578 H locs hp hM hS => ?_)
  obtain ⟨u577, rfl, h⟩ := hp
  refine W.cs (cells' := 652 + 2 * t28) (slots' := 7573 + 12 * t28) (by first | omega | (dsimp only; omega)) (by first | omega | (dsimp only; omega)) ?_
  refine lv_icmp_eq (tgt := 2766) S.1 S.2.1 dL_law_2010 (by decide) (fun c579 => ?_) (fun c579 => ?_)
  · have h := h.1 c579
    refine W.widen (k := 654 + 2 * t28) (n := 7585 + 12 * t28) (by omega) (by omega) ?_
    exact cB_L_law_2766 hl0 S hG hX hbl hbA hgh hend K28 kK28 r1 r2 r3 r4 x5 t28 μ578 H locs ls hM hS (lv_sub hl [0, 1, 2, 3, 4, 5] rfl) h
  · have h := h.2 c579
    refine lv_iconst (v := (nI 0)) S.1 S.2.1 dL_law_2013 (by decide) ?_
    exact h.elim
set_option maxRecDepth 100000 in
set_option maxHeartbeats 4000000 in
theorem cB_L_law_2015 {p : Program} {l : Launch} {e : Env} {s : State} {m : MethodId} {args : Array Value} {below : List Frame} {meth : Method} {c : Code} {Z : State → Prop} {G : mgT} {o L : Nat} {xs : Nat → Int32} (hl0 : l.stackTraces = false) (S : CallFix p m c cL_law 9 s args TT RL) (hG : GK G s s.heap) (hX : va_X o L xs s s.heap) (hbl : o < s.heap.size) (hbA : ¬ Ah G o) (hgh : gh G = s.heap.size) (hend : ∀ (pc : Nat) (H : Heap) (ls : Array Slot), decode cL_law pc = .ok (.ireturn, 1) → W p l e room_1 s m args below meth c H [] 603072 7223402 Z (F0 m pc ls [.int 1])) : ∀ (K28 : Option Nat → Option Nat → Option Nat → Option Nat → Int32 → Nat → mmT → Prop) (kK28 : ∀ (r1 : Option Nat) (r2 : Option Nat) (r3 : Option Nat) (r4 : Option Nat) (x5 : Int32) (t28 : Nat) (μ : mmT) (H : Heap) (locs : List Loc) (ls : Array Slot), Mm G μ H → va_S (Ah G) s.heap H locs → lv_has ls 9 [(0, .ref o), (1, va_rf r1), (2, va_rf r2), (3, va_rf r3), (4, va_rf r4), (5, .int x5)] → K28 r1 r2 r3 r4 x5 t28 μ → W p l e room_1 s m args below meth c H locs (652 + 2 * t28) (7573 + 12 * t28) Z (F0 m 28 ls [])) (r1 : Option Nat) (r2 : Option Nat) (r3 : Option Nat) (r4 : Option Nat) (x5 : Int32) (t28 : Nat) (μ : mmT) (H : Heap) (locs : List Loc) (ls : Array Slot), Mm G μ H → va_S (Ah G) s.heap H locs → lv_has ls 9 [(0, .ref o), (1, va_rf r1), (2, va_rf r2), (3, va_rf r3), (4, va_rf r4), (5, .int x5)] → w_L_law_b2015 G o L xs K28 r1 r2 r3 r4 x5 t28 μ → W p l e room_1 s m args below meth c H locs (652 + 2 * t28) (7573 + 12 * t28) Z (F0 m 2015 ls []) := by
  intro K28 kK28 r1 r2 r3 r4 x5 t28 μ H locs ls hM hS hl h
  unfold w_L_law_b2015 at h
  obtain ⟨ht28, h⟩ := h
  refine mz_aload_n (x := r1) S.1 S.2.1 dL_law_2015 rfl (lv_at hl 1 rfl) ?_
  obtain ⟨a580, e581, h⟩ := h
  refine mz_o0 e581 ?_
  obtain ⟨k582, h⟩ := h
  refine mz_V S hG hM hS cf_9 k582 (As := []) (rest := []) (c_X10_wind h) yf_X10_wind tw_394 tw_395 tw_396 ⟨Nat.le_of_ble_eq_true rfl, Nat.le_of_ble_eq_true rfl⟩ ⟨(by show (652 + 2 * t28) + 0 ≤ 603072; omega), (by show (7573 + 12 * t28) + 0 ≤ 7223402; omega)⟩ rfl hl.1 rfl (Nat.le_of_ble_eq_true rfl) dL_law_2016 (fun v9 μ9 H locs hp hM hS => ?_)
  obtain ⟨u583, rfl, e9, h⟩ := hp
  rw [e9] at hM
  refine W.cs (cells' := 652 + 2 * t28) (slots' := 7573 + 12 * t28) (by first | omega | (dsimp only; omega)) (by first | omega | (dsimp only; omega)) ?_
  refine mz_aload_n (x := r2) S.1 S.2.1 dL_law_2019 rfl (lv_at hl 2 rfl) ?_
  obtain ⟨a584, e585, h⟩ := h
  refine mz_o0 e585 ?_
  obtain ⟨k586, h⟩ := h
  refine mz_V S hG hM hS cf_10 k586 (As := []) (rest := [.int u583]) (c_X11_wind h) yf_X11_wind tw_1807 tw_1808 tw_1809 ⟨Nat.le_of_ble_eq_true rfl, Nat.le_of_ble_eq_true rfl⟩ ⟨(by show (652 + 2 * t28) + 0 ≤ 603072; omega), (by show (7573 + 12 * t28) + 0 ≤ 7223402; omega)⟩ rfl hl.1 rfl (Nat.le_of_ble_eq_true rfl) dL_law_2020 (fun v9 μ588 H locs hp hM hS => ?_)
  obtain ⟨u587, rfl, h⟩ := hp
  refine W.cs (cells' := 652 + 2 * t28) (slots' := 7573 + 12 * t28) (by first | omega | (dsimp only; omega)) (by first | omega | (dsimp only; omega)) ?_
  refine lv_icmp_eq (tgt := 2766) S.1 S.2.1 dL_law_2023 (by decide) (fun c589 => ?_) (fun c589 => ?_)
  · have h := h.1 c589
    refine W.widen (k := 654 + 2 * t28) (n := 7585 + 12 * t28) (by omega) (by omega) ?_
    exact cB_L_law_2766 hl0 S hG hX hbl hbA hgh hend K28 kK28 r1 r2 r3 r4 x5 t28 μ588 H locs ls hM hS (lv_sub hl [0, 1, 2, 3, 4, 5] rfl) h
  · have h := h.2 c589
    refine lv_iconst (v := (nI 0)) S.1 S.2.1 dL_law_2026 (by decide) ?_
    exact h.elim
set_option maxRecDepth 100000 in
set_option maxHeartbeats 4000000 in
theorem cB_L_law_2028 {p : Program} {l : Launch} {e : Env} {s : State} {m : MethodId} {args : Array Value} {below : List Frame} {meth : Method} {c : Code} {Z : State → Prop} {G : mgT} {o L : Nat} {xs : Nat → Int32} (hl0 : l.stackTraces = false) (S : CallFix p m c cL_law 9 s args TT RL) (hG : GK G s s.heap) (hX : va_X o L xs s s.heap) (hbl : o < s.heap.size) (hbA : ¬ Ah G o) (hgh : gh G = s.heap.size) (hend : ∀ (pc : Nat) (H : Heap) (ls : Array Slot), decode cL_law pc = .ok (.ireturn, 1) → W p l e room_1 s m args below meth c H [] 603072 7223402 Z (F0 m pc ls [.int 1])) : ∀ (K28 : Option Nat → Option Nat → Option Nat → Option Nat → Int32 → Nat → mmT → Prop) (kK28 : ∀ (r1 : Option Nat) (r2 : Option Nat) (r3 : Option Nat) (r4 : Option Nat) (x5 : Int32) (t28 : Nat) (μ : mmT) (H : Heap) (locs : List Loc) (ls : Array Slot), Mm G μ H → va_S (Ah G) s.heap H locs → lv_has ls 9 [(0, .ref o), (1, va_rf r1), (2, va_rf r2), (3, va_rf r3), (4, va_rf r4), (5, .int x5)] → K28 r1 r2 r3 r4 x5 t28 μ → W p l e room_1 s m args below meth c H locs (652 + 2 * t28) (7573 + 12 * t28) Z (F0 m 28 ls [])) (r1 : Option Nat) (r2 : Option Nat) (r3 : Option Nat) (r4 : Option Nat) (x5 : Int32) (t28 : Nat) (μ : mmT) (H : Heap) (locs : List Loc) (ls : Array Slot), Mm G μ H → va_S (Ah G) s.heap H locs → lv_has ls 9 [(0, .ref o), (1, va_rf r1), (2, va_rf r2), (3, va_rf r3), (4, va_rf r4), (5, .int x5)] → w_L_law_b2028 G o L xs K28 r1 r2 r3 r4 x5 t28 μ → W p l e room_1 s m args below meth c H locs (652 + 2 * t28) (7573 + 12 * t28) Z (F0 m 2028 ls []) := by
  intro K28 kK28 r1 r2 r3 r4 x5 t28 μ H locs ls hM hS hl h
  unfold w_L_law_b2028 at h
  obtain ⟨ht28, h⟩ := h
  refine mz_aload_n (x := r1) S.1 S.2.1 dL_law_2028 rfl (lv_at hl 1 rfl) ?_
  obtain ⟨a590, e591, h⟩ := h
  refine mz_o0 e591 ?_
  obtain ⟨k592, h⟩ := h
  refine mz_V S hG hM hS cf_9 k592 (As := []) (rest := []) (c_X10_publishedTotal h) yf_X10_publishedTotal tw_398 tw_399 tw_400 ⟨Nat.le_of_ble_eq_true rfl, Nat.le_of_ble_eq_true rfl⟩ ⟨(by show (652 + 2 * t28) + 0 ≤ 603072; omega), (by show (7573 + 12 * t28) + 0 ≤ 7223402; omega)⟩ rfl hl.1 rfl (Nat.le_of_ble_eq_true rfl) dL_law_2029 (fun v9 μ9 H locs hp hM hS => ?_)
  obtain ⟨u593, rfl, e9, h⟩ := hp
  rw [e9] at hM
  refine W.cs (cells' := 652 + 2 * t28) (slots' := 7573 + 12 * t28) (by first | omega | (dsimp only; omega)) (by first | omega | (dsimp only; omega)) ?_
  refine mz_aload_n (x := r2) S.1 S.2.1 dL_law_2032 rfl (lv_at hl 2 rfl) ?_
  obtain ⟨a594, e595, h⟩ := h
  refine mz_o0 e595 ?_
  obtain ⟨k596, h⟩ := h
  refine mz_V S hG hM hS cf_10 k596 (As := []) (rest := [.int u593]) (c_X11_publishedTotal h) yf_X11_publishedTotal tw_1811 tw_1812 tw_1813 ⟨Nat.le_of_ble_eq_true rfl, Nat.le_of_ble_eq_true rfl⟩ ⟨(by show (652 + 2 * t28) + 0 ≤ 603072; omega), (by show (7573 + 12 * t28) + 0 ≤ 7223402; omega)⟩ rfl hl.1 rfl (Nat.le_of_ble_eq_true rfl) dL_law_2033 (fun v9 μ598 H locs hp hM hS => ?_)
  obtain ⟨u597, rfl, h⟩ := hp
  refine W.cs (cells' := 652 + 2 * t28) (slots' := 7573 + 12 * t28) (by first | omega | (dsimp only; omega)) (by first | omega | (dsimp only; omega)) ?_
  refine lv_icmp_eq (tgt := 2766) S.1 S.2.1 dL_law_2036 (by decide) (fun c599 => ?_) (fun c599 => ?_)
  · have h := h.1 c599
    refine W.widen (k := 654 + 2 * t28) (n := 7585 + 12 * t28) (by omega) (by omega) ?_
    exact cB_L_law_2766 hl0 S hG hX hbl hbA hgh hend K28 kK28 r1 r2 r3 r4 x5 t28 μ598 H locs ls hM hS (lv_sub hl [0, 1, 2, 3, 4, 5] rfl) h
  · have h := h.2 c599
    refine lv_iconst (v := (nI 0)) S.1 S.2.1 dL_law_2039 (by decide) ?_
    exact h.elim
set_option maxRecDepth 100000 in
set_option maxHeartbeats 4000000 in
theorem cB_L_law_2041 {p : Program} {l : Launch} {e : Env} {s : State} {m : MethodId} {args : Array Value} {below : List Frame} {meth : Method} {c : Code} {Z : State → Prop} {G : mgT} {o L : Nat} {xs : Nat → Int32} (hl0 : l.stackTraces = false) (S : CallFix p m c cL_law 9 s args TT RL) (hG : GK G s s.heap) (hX : va_X o L xs s s.heap) (hbl : o < s.heap.size) (hbA : ¬ Ah G o) (hgh : gh G = s.heap.size) (hend : ∀ (pc : Nat) (H : Heap) (ls : Array Slot), decode cL_law pc = .ok (.ireturn, 1) → W p l e room_1 s m args below meth c H [] 603072 7223402 Z (F0 m pc ls [.int 1])) : ∀ (K28 : Option Nat → Option Nat → Option Nat → Option Nat → Int32 → Nat → mmT → Prop) (kK28 : ∀ (r1 : Option Nat) (r2 : Option Nat) (r3 : Option Nat) (r4 : Option Nat) (x5 : Int32) (t28 : Nat) (μ : mmT) (H : Heap) (locs : List Loc) (ls : Array Slot), Mm G μ H → va_S (Ah G) s.heap H locs → lv_has ls 9 [(0, .ref o), (1, va_rf r1), (2, va_rf r2), (3, va_rf r3), (4, va_rf r4), (5, .int x5)] → K28 r1 r2 r3 r4 x5 t28 μ → W p l e room_1 s m args below meth c H locs (652 + 2 * t28) (7573 + 12 * t28) Z (F0 m 28 ls [])) (r1 : Option Nat) (r2 : Option Nat) (r3 : Option Nat) (r4 : Option Nat) (x5 : Int32) (t28 : Nat) (μ : mmT) (H : Heap) (locs : List Loc) (ls : Array Slot), Mm G μ H → va_S (Ah G) s.heap H locs → lv_has ls 9 [(0, .ref o), (1, va_rf r1), (2, va_rf r2), (3, va_rf r3), (4, va_rf r4), (5, .int x5)] → w_L_law_b2041 G o L xs K28 r1 r2 r3 r4 x5 t28 μ → W p l e room_1 s m args below meth c H locs (652 + 2 * t28) (7573 + 12 * t28) Z (F0 m 2041 ls []) := by
  intro K28 kK28 r1 r2 r3 r4 x5 t28 μ H locs ls hM hS hl h
  unfold w_L_law_b2041 at h
  obtain ⟨ht28, h⟩ := h
  refine mz_aload_n (x := r1) S.1 S.2.1 dL_law_2041 rfl (lv_at hl 1 rfl) ?_
  obtain ⟨a600, e601, h⟩ := h
  refine mz_o0 e601 ?_
  obtain ⟨k602, h⟩ := h
  refine mz_V S hG hM hS cf_9 k602 (As := []) (rest := []) (c_X10_deliveredTotal h) yf_X10_deliveredTotal tw_402 tw_403 tw_404 ⟨Nat.le_of_ble_eq_true rfl, Nat.le_of_ble_eq_true rfl⟩ ⟨(by show (652 + 2 * t28) + 0 ≤ 603072; omega), (by show (7573 + 12 * t28) + 0 ≤ 7223402; omega)⟩ rfl hl.1 rfl (Nat.le_of_ble_eq_true rfl) dL_law_2042 (fun v9 μ9 H locs hp hM hS => ?_)
  obtain ⟨u603, rfl, e9, h⟩ := hp
  rw [e9] at hM
  refine W.cs (cells' := 652 + 2 * t28) (slots' := 7573 + 12 * t28) (by first | omega | (dsimp only; omega)) (by first | omega | (dsimp only; omega)) ?_
  refine mz_aload_n (x := r2) S.1 S.2.1 dL_law_2045 rfl (lv_at hl 2 rfl) ?_
  obtain ⟨a604, e605, h⟩ := h
  refine mz_o0 e605 ?_
  obtain ⟨k606, h⟩ := h
  refine mz_V S hG hM hS cf_10 k606 (As := []) (rest := [.int u603]) (c_X11_deliveredTotal h) yf_X11_deliveredTotal tw_1815 tw_1816 tw_1817 ⟨Nat.le_of_ble_eq_true rfl, Nat.le_of_ble_eq_true rfl⟩ ⟨(by show (652 + 2 * t28) + 0 ≤ 603072; omega), (by show (7573 + 12 * t28) + 0 ≤ 7223402; omega)⟩ rfl hl.1 rfl (Nat.le_of_ble_eq_true rfl) dL_law_2046 (fun v9 μ608 H locs hp hM hS => ?_)
  obtain ⟨u607, rfl, h⟩ := hp
  refine W.cs (cells' := 652 + 2 * t28) (slots' := 7573 + 12 * t28) (by first | omega | (dsimp only; omega)) (by first | omega | (dsimp only; omega)) ?_
  refine lv_icmp_eq (tgt := 2766) S.1 S.2.1 dL_law_2049 (by decide) (fun c609 => ?_) (fun c609 => ?_)
  · have h := h.1 c609
    refine W.widen (k := 654 + 2 * t28) (n := 7585 + 12 * t28) (by omega) (by omega) ?_
    exact cB_L_law_2766 hl0 S hG hX hbl hbA hgh hend K28 kK28 r1 r2 r3 r4 x5 t28 μ608 H locs ls hM hS (lv_sub hl [0, 1, 2, 3, 4, 5] rfl) h
  · have h := h.2 c609
    refine lv_iconst (v := (nI 0)) S.1 S.2.1 dL_law_2052 (by decide) ?_
    exact h.elim
set_option maxRecDepth 100000 in
set_option maxHeartbeats 4000000 in
theorem cB_L_law_2054 {p : Program} {l : Launch} {e : Env} {s : State} {m : MethodId} {args : Array Value} {below : List Frame} {meth : Method} {c : Code} {Z : State → Prop} {G : mgT} {o L : Nat} {xs : Nat → Int32} (hl0 : l.stackTraces = false) (S : CallFix p m c cL_law 9 s args TT RL) (hG : GK G s s.heap) (hX : va_X o L xs s s.heap) (hbl : o < s.heap.size) (hbA : ¬ Ah G o) (hgh : gh G = s.heap.size) (hend : ∀ (pc : Nat) (H : Heap) (ls : Array Slot), decode cL_law pc = .ok (.ireturn, 1) → W p l e room_1 s m args below meth c H [] 603072 7223402 Z (F0 m pc ls [.int 1])) : ∀ (K28 : Option Nat → Option Nat → Option Nat → Option Nat → Int32 → Nat → mmT → Prop) (kK28 : ∀ (r1 : Option Nat) (r2 : Option Nat) (r3 : Option Nat) (r4 : Option Nat) (x5 : Int32) (t28 : Nat) (μ : mmT) (H : Heap) (locs : List Loc) (ls : Array Slot), Mm G μ H → va_S (Ah G) s.heap H locs → lv_has ls 9 [(0, .ref o), (1, va_rf r1), (2, va_rf r2), (3, va_rf r3), (4, va_rf r4), (5, .int x5)] → K28 r1 r2 r3 r4 x5 t28 μ → W p l e room_1 s m args below meth c H locs (652 + 2 * t28) (7573 + 12 * t28) Z (F0 m 28 ls [])) (r1 : Option Nat) (r2 : Option Nat) (r3 : Option Nat) (r4 : Option Nat) (x5 : Int32) (t28 : Nat) (μ : mmT) (H : Heap) (locs : List Loc) (ls : Array Slot), Mm G μ H → va_S (Ah G) s.heap H locs → lv_has ls 9 [(0, .ref o), (1, va_rf r1), (2, va_rf r2), (3, va_rf r3), (4, va_rf r4), (5, .int x5)] → w_L_law_b2054 G o L xs K28 r1 r2 r3 r4 x5 t28 μ → W p l e room_1 s m args below meth c H locs (652 + 2 * t28) (7573 + 12 * t28) Z (F0 m 2054 ls []) := by
  intro K28 kK28 r1 r2 r3 r4 x5 t28 μ H locs ls hM hS hl h
  unfold w_L_law_b2054 at h
  obtain ⟨ht28, h⟩ := h
  refine mz_aload_n (x := r1) S.1 S.2.1 dL_law_2054 rfl (lv_at hl 1 rfl) ?_
  obtain ⟨a610, e611, h⟩ := h
  refine mz_o0 e611 ?_
  obtain ⟨k612, h⟩ := h
  refine mz_V S hG hM hS cf_9 k612 (As := []) (rest := []) (c_X10_readTotal h) yf_X10_readTotal tw_406 tw_407 tw_408 ⟨Nat.le_of_ble_eq_true rfl, Nat.le_of_ble_eq_true rfl⟩ ⟨(by show (652 + 2 * t28) + 0 ≤ 603072; omega), (by show (7573 + 12 * t28) + 0 ≤ 7223402; omega)⟩ rfl hl.1 rfl (Nat.le_of_ble_eq_true rfl) dL_law_2055 (fun v9 μ9 H locs hp hM hS => ?_)
  obtain ⟨u613, rfl, e9, h⟩ := hp
  rw [e9] at hM
  refine W.cs (cells' := 652 + 2 * t28) (slots' := 7573 + 12 * t28) (by first | omega | (dsimp only; omega)) (by first | omega | (dsimp only; omega)) ?_
  refine mz_aload_n (x := r2) S.1 S.2.1 dL_law_2058 rfl (lv_at hl 2 rfl) ?_
  obtain ⟨a614, e615, h⟩ := h
  refine mz_o0 e615 ?_
  obtain ⟨k616, h⟩ := h
  refine mz_V S hG hM hS cf_10 k616 (As := []) (rest := [.int u613]) (c_X11_readTotal h) yf_X11_readTotal tw_1819 tw_1820 tw_1821 ⟨Nat.le_of_ble_eq_true rfl, Nat.le_of_ble_eq_true rfl⟩ ⟨(by show (652 + 2 * t28) + 0 ≤ 603072; omega), (by show (7573 + 12 * t28) + 0 ≤ 7223402; omega)⟩ rfl hl.1 rfl (Nat.le_of_ble_eq_true rfl) dL_law_2059 (fun v9 μ618 H locs hp hM hS => ?_)
  obtain ⟨u617, rfl, h⟩ := hp
  refine W.cs (cells' := 652 + 2 * t28) (slots' := 7573 + 12 * t28) (by first | omega | (dsimp only; omega)) (by first | omega | (dsimp only; omega)) ?_
  refine lv_icmp_eq (tgt := 2766) S.1 S.2.1 dL_law_2062 (by decide) (fun c619 => ?_) (fun c619 => ?_)
  · have h := h.1 c619
    refine W.widen (k := 654 + 2 * t28) (n := 7585 + 12 * t28) (by omega) (by omega) ?_
    exact cB_L_law_2766 hl0 S hG hX hbl hbA hgh hend K28 kK28 r1 r2 r3 r4 x5 t28 μ618 H locs ls hM hS (lv_sub hl [0, 1, 2, 3, 4, 5] rfl) h
  · have h := h.2 c619
    refine lv_iconst (v := (nI 0)) S.1 S.2.1 dL_law_2065 (by decide) ?_
    exact h.elim
set_option maxRecDepth 100000 in
set_option maxHeartbeats 4000000 in
theorem cB_L_law_2067 {p : Program} {l : Launch} {e : Env} {s : State} {m : MethodId} {args : Array Value} {below : List Frame} {meth : Method} {c : Code} {Z : State → Prop} {G : mgT} {o L : Nat} {xs : Nat → Int32} (hl0 : l.stackTraces = false) (S : CallFix p m c cL_law 9 s args TT RL) (hG : GK G s s.heap) (hX : va_X o L xs s s.heap) (hbl : o < s.heap.size) (hbA : ¬ Ah G o) (hgh : gh G = s.heap.size) (hend : ∀ (pc : Nat) (H : Heap) (ls : Array Slot), decode cL_law pc = .ok (.ireturn, 1) → W p l e room_1 s m args below meth c H [] 603072 7223402 Z (F0 m pc ls [.int 1])) : ∀ (K28 : Option Nat → Option Nat → Option Nat → Option Nat → Int32 → Nat → mmT → Prop) (kK28 : ∀ (r1 : Option Nat) (r2 : Option Nat) (r3 : Option Nat) (r4 : Option Nat) (x5 : Int32) (t28 : Nat) (μ : mmT) (H : Heap) (locs : List Loc) (ls : Array Slot), Mm G μ H → va_S (Ah G) s.heap H locs → lv_has ls 9 [(0, .ref o), (1, va_rf r1), (2, va_rf r2), (3, va_rf r3), (4, va_rf r4), (5, .int x5)] → K28 r1 r2 r3 r4 x5 t28 μ → W p l e room_1 s m args below meth c H locs (652 + 2 * t28) (7573 + 12 * t28) Z (F0 m 28 ls [])) (r1 : Option Nat) (r2 : Option Nat) (r3 : Option Nat) (r4 : Option Nat) (x5 : Int32) (t28 : Nat) (μ : mmT) (H : Heap) (locs : List Loc) (ls : Array Slot), Mm G μ H → va_S (Ah G) s.heap H locs → lv_has ls 9 [(0, .ref o), (1, va_rf r1), (2, va_rf r2), (3, va_rf r3), (4, va_rf r4), (5, .int x5)] → w_L_law_b2067 G o L xs K28 r1 r2 r3 r4 x5 t28 μ → W p l e room_1 s m args below meth c H locs (652 + 2 * t28) (7573 + 12 * t28) Z (F0 m 2067 ls []) := by
  intro K28 kK28 r1 r2 r3 r4 x5 t28 μ H locs ls hM hS hl h
  unfold w_L_law_b2067 at h
  obtain ⟨ht28, h⟩ := h
  refine mz_aload_n (x := r1) S.1 S.2.1 dL_law_2067 rfl (lv_at hl 1 rfl) ?_
  obtain ⟨a620, e621, h⟩ := h
  refine mz_o0 e621 ?_
  obtain ⟨k622, h⟩ := h
  refine mz_V S hG hM hS cf_9 k622 (As := []) (rest := []) (c_X10_duplicateTotal h) yf_X10_duplicateTotal tw_410 tw_411 tw_412 ⟨Nat.le_of_ble_eq_true rfl, Nat.le_of_ble_eq_true rfl⟩ ⟨(by show (652 + 2 * t28) + 0 ≤ 603072; omega), (by show (7573 + 12 * t28) + 0 ≤ 7223402; omega)⟩ rfl hl.1 rfl (Nat.le_of_ble_eq_true rfl) dL_law_2068 (fun v9 μ9 H locs hp hM hS => ?_)
  obtain ⟨u623, rfl, e9, h⟩ := hp
  rw [e9] at hM
  refine W.cs (cells' := 652 + 2 * t28) (slots' := 7573 + 12 * t28) (by first | omega | (dsimp only; omega)) (by first | omega | (dsimp only; omega)) ?_
  refine mz_aload_n (x := r2) S.1 S.2.1 dL_law_2071 rfl (lv_at hl 2 rfl) ?_
  obtain ⟨a624, e625, h⟩ := h
  refine mz_o0 e625 ?_
  obtain ⟨k626, h⟩ := h
  refine mz_V S hG hM hS cf_10 k626 (As := []) (rest := [.int u623]) (c_X11_duplicateTotal h) yf_X11_duplicateTotal tw_1823 tw_1824 tw_1825 ⟨Nat.le_of_ble_eq_true rfl, Nat.le_of_ble_eq_true rfl⟩ ⟨(by show (652 + 2 * t28) + 0 ≤ 603072; omega), (by show (7573 + 12 * t28) + 0 ≤ 7223402; omega)⟩ rfl hl.1 rfl (Nat.le_of_ble_eq_true rfl) dL_law_2072 (fun v9 μ628 H locs hp hM hS => ?_)
  obtain ⟨u627, rfl, h⟩ := hp
  refine W.cs (cells' := 652 + 2 * t28) (slots' := 7573 + 12 * t28) (by first | omega | (dsimp only; omega)) (by first | omega | (dsimp only; omega)) ?_
  refine lv_icmp_eq (tgt := 2766) S.1 S.2.1 dL_law_2075 (by decide) (fun c629 => ?_) (fun c629 => ?_)
  · have h := h.1 c629
    refine W.widen (k := 654 + 2 * t28) (n := 7585 + 12 * t28) (by omega) (by omega) ?_
    exact cB_L_law_2766 hl0 S hG hX hbl hbA hgh hend K28 kK28 r1 r2 r3 r4 x5 t28 μ628 H locs ls hM hS (lv_sub hl [0, 1, 2, 3, 4, 5] rfl) h
  · have h := h.2 c629
    refine lv_iconst (v := (nI 0)) S.1 S.2.1 dL_law_2078 (by decide) ?_
    exact h.elim
set_option maxRecDepth 100000 in
set_option maxHeartbeats 4000000 in
theorem cB_L_law_2080 {p : Program} {l : Launch} {e : Env} {s : State} {m : MethodId} {args : Array Value} {below : List Frame} {meth : Method} {c : Code} {Z : State → Prop} {G : mgT} {o L : Nat} {xs : Nat → Int32} (hl0 : l.stackTraces = false) (S : CallFix p m c cL_law 9 s args TT RL) (hG : GK G s s.heap) (hX : va_X o L xs s s.heap) (hbl : o < s.heap.size) (hbA : ¬ Ah G o) (hgh : gh G = s.heap.size) (hend : ∀ (pc : Nat) (H : Heap) (ls : Array Slot), decode cL_law pc = .ok (.ireturn, 1) → W p l e room_1 s m args below meth c H [] 603072 7223402 Z (F0 m pc ls [.int 1])) : ∀ (K28 : Option Nat → Option Nat → Option Nat → Option Nat → Int32 → Nat → mmT → Prop) (kK28 : ∀ (r1 : Option Nat) (r2 : Option Nat) (r3 : Option Nat) (r4 : Option Nat) (x5 : Int32) (t28 : Nat) (μ : mmT) (H : Heap) (locs : List Loc) (ls : Array Slot), Mm G μ H → va_S (Ah G) s.heap H locs → lv_has ls 9 [(0, .ref o), (1, va_rf r1), (2, va_rf r2), (3, va_rf r3), (4, va_rf r4), (5, .int x5)] → K28 r1 r2 r3 r4 x5 t28 μ → W p l e room_1 s m args below meth c H locs (652 + 2 * t28) (7573 + 12 * t28) Z (F0 m 28 ls [])) (r1 : Option Nat) (r2 : Option Nat) (r3 : Option Nat) (r4 : Option Nat) (x5 : Int32) (t28 : Nat) (μ : mmT) (H : Heap) (locs : List Loc) (ls : Array Slot), Mm G μ H → va_S (Ah G) s.heap H locs → lv_has ls 9 [(0, .ref o), (1, va_rf r1), (2, va_rf r2), (3, va_rf r3), (4, va_rf r4), (5, .int x5)] → w_L_law_b2080 G o L xs K28 r1 r2 r3 r4 x5 t28 μ → W p l e room_1 s m args below meth c H locs (652 + 2 * t28) (7573 + 12 * t28) Z (F0 m 2080 ls []) := by
  intro K28 kK28 r1 r2 r3 r4 x5 t28 μ H locs ls hM hS hl h
  unfold w_L_law_b2080 at h
  obtain ⟨ht28, h⟩ := h
  refine mz_aload_n (x := r1) S.1 S.2.1 dL_law_2080 rfl (lv_at hl 1 rfl) ?_
  obtain ⟨a630, e631, h⟩ := h
  refine mz_o0 e631 ?_
  obtain ⟨k632, h⟩ := h
  refine mz_V S hG hM hS cf_9 k632 (As := []) (rest := []) (c_X10_failedTotal h) yf_X10_failedTotal tw_414 tw_415 tw_416 ⟨Nat.le_of_ble_eq_true rfl, Nat.le_of_ble_eq_true rfl⟩ ⟨(by show (652 + 2 * t28) + 0 ≤ 603072; omega), (by show (7573 + 12 * t28) + 0 ≤ 7223402; omega)⟩ rfl hl.1 rfl (Nat.le_of_ble_eq_true rfl) dL_law_2081 (fun v9 μ9 H locs hp hM hS => ?_)
  obtain ⟨u633, rfl, e9, h⟩ := hp
  rw [e9] at hM
  refine W.cs (cells' := 652 + 2 * t28) (slots' := 7573 + 12 * t28) (by first | omega | (dsimp only; omega)) (by first | omega | (dsimp only; omega)) ?_
  refine mz_aload_n (x := r2) S.1 S.2.1 dL_law_2084 rfl (lv_at hl 2 rfl) ?_
  obtain ⟨a634, e635, h⟩ := h
  refine mz_o0 e635 ?_
  obtain ⟨k636, h⟩ := h
  refine mz_V S hG hM hS cf_10 k636 (As := []) (rest := [.int u633]) (c_X11_failedTotal h) yf_X11_failedTotal tw_1827 tw_1828 tw_1829 ⟨Nat.le_of_ble_eq_true rfl, Nat.le_of_ble_eq_true rfl⟩ ⟨(by show (652 + 2 * t28) + 0 ≤ 603072; omega), (by show (7573 + 12 * t28) + 0 ≤ 7223402; omega)⟩ rfl hl.1 rfl (Nat.le_of_ble_eq_true rfl) dL_law_2085 (fun v9 μ638 H locs hp hM hS => ?_)
  obtain ⟨u637, rfl, h⟩ := hp
  refine W.cs (cells' := 652 + 2 * t28) (slots' := 7573 + 12 * t28) (by first | omega | (dsimp only; omega)) (by first | omega | (dsimp only; omega)) ?_
  refine lv_icmp_eq (tgt := 2766) S.1 S.2.1 dL_law_2088 (by decide) (fun c639 => ?_) (fun c639 => ?_)
  · have h := h.1 c639
    refine W.widen (k := 654 + 2 * t28) (n := 7585 + 12 * t28) (by omega) (by omega) ?_
    exact cB_L_law_2766 hl0 S hG hX hbl hbA hgh hend K28 kK28 r1 r2 r3 r4 x5 t28 μ638 H locs ls hM hS (lv_sub hl [0, 1, 2, 3, 4, 5] rfl) h
  · have h := h.2 c639
    refine lv_iconst (v := (nI 0)) S.1 S.2.1 dL_law_2091 (by decide) ?_
    exact h.elim
set_option maxRecDepth 100000 in
set_option maxHeartbeats 4000000 in
theorem cB_L_law_2093 {p : Program} {l : Launch} {e : Env} {s : State} {m : MethodId} {args : Array Value} {below : List Frame} {meth : Method} {c : Code} {Z : State → Prop} {G : mgT} {o L : Nat} {xs : Nat → Int32} (hl0 : l.stackTraces = false) (S : CallFix p m c cL_law 9 s args TT RL) (hG : GK G s s.heap) (hX : va_X o L xs s s.heap) (hbl : o < s.heap.size) (hbA : ¬ Ah G o) (hgh : gh G = s.heap.size) (hend : ∀ (pc : Nat) (H : Heap) (ls : Array Slot), decode cL_law pc = .ok (.ireturn, 1) → W p l e room_1 s m args below meth c H [] 603072 7223402 Z (F0 m pc ls [.int 1])) : ∀ (K28 : Option Nat → Option Nat → Option Nat → Option Nat → Int32 → Nat → mmT → Prop) (kK28 : ∀ (r1 : Option Nat) (r2 : Option Nat) (r3 : Option Nat) (r4 : Option Nat) (x5 : Int32) (t28 : Nat) (μ : mmT) (H : Heap) (locs : List Loc) (ls : Array Slot), Mm G μ H → va_S (Ah G) s.heap H locs → lv_has ls 9 [(0, .ref o), (1, va_rf r1), (2, va_rf r2), (3, va_rf r3), (4, va_rf r4), (5, .int x5)] → K28 r1 r2 r3 r4 x5 t28 μ → W p l e room_1 s m args below meth c H locs (652 + 2 * t28) (7573 + 12 * t28) Z (F0 m 28 ls [])) (r1 : Option Nat) (r2 : Option Nat) (r3 : Option Nat) (r4 : Option Nat) (x5 : Int32) (t28 : Nat) (μ : mmT) (H : Heap) (locs : List Loc) (ls : Array Slot), Mm G μ H → va_S (Ah G) s.heap H locs → lv_has ls 9 [(0, .ref o), (1, va_rf r1), (2, va_rf r2), (3, va_rf r3), (4, va_rf r4), (5, .int x5)] → w_L_law_b2093 G o L xs K28 r1 r2 r3 r4 x5 t28 μ → W p l e room_1 s m args below meth c H locs (652 + 2 * t28) (7573 + 12 * t28) Z (F0 m 2093 ls []) := by
  intro K28 kK28 r1 r2 r3 r4 x5 t28 μ H locs ls hM hS hl h
  unfold w_L_law_b2093 at h
  obtain ⟨ht28, h⟩ := h
  refine mz_aload_n (x := r1) S.1 S.2.1 dL_law_2093 rfl (lv_at hl 1 rfl) ?_
  obtain ⟨a640, e641, h⟩ := h
  refine mz_o0 e641 ?_
  obtain ⟨k642, h⟩ := h
  refine mz_V S hG hM hS cf_9 k642 (As := []) (rest := []) (c_X10_arrivalTotal h) yf_X10_arrivalTotal tw_418 tw_419 tw_420 ⟨Nat.le_of_ble_eq_true rfl, Nat.le_of_ble_eq_true rfl⟩ ⟨(by show (652 + 2 * t28) + 0 ≤ 603072; omega), (by show (7573 + 12 * t28) + 0 ≤ 7223402; omega)⟩ rfl hl.1 rfl (Nat.le_of_ble_eq_true rfl) dL_law_2094 (fun v9 μ9 H locs hp hM hS => ?_)
  obtain ⟨u643, rfl, e9, h⟩ := hp
  rw [e9] at hM
  refine W.cs (cells' := 652 + 2 * t28) (slots' := 7573 + 12 * t28) (by first | omega | (dsimp only; omega)) (by first | omega | (dsimp only; omega)) ?_
  refine mz_aload_n (x := r2) S.1 S.2.1 dL_law_2097 rfl (lv_at hl 2 rfl) ?_
  obtain ⟨a644, e645, h⟩ := h
  refine mz_o0 e645 ?_
  obtain ⟨k646, h⟩ := h
  refine mz_V S hG hM hS cf_10 k646 (As := []) (rest := [.int u643]) (c_X11_arrivalTotal h) yf_X11_arrivalTotal tw_1831 tw_1832 tw_1833 ⟨Nat.le_of_ble_eq_true rfl, Nat.le_of_ble_eq_true rfl⟩ ⟨(by show (652 + 2 * t28) + 0 ≤ 603072; omega), (by show (7573 + 12 * t28) + 0 ≤ 7223402; omega)⟩ rfl hl.1 rfl (Nat.le_of_ble_eq_true rfl) dL_law_2098 (fun v9 μ648 H locs hp hM hS => ?_)
  obtain ⟨u647, rfl, h⟩ := hp
  refine W.cs (cells' := 652 + 2 * t28) (slots' := 7573 + 12 * t28) (by first | omega | (dsimp only; omega)) (by first | omega | (dsimp only; omega)) ?_
  refine lv_icmp_eq (tgt := 2766) S.1 S.2.1 dL_law_2101 (by decide) (fun c649 => ?_) (fun c649 => ?_)
  · have h := h.1 c649
    refine W.widen (k := 654 + 2 * t28) (n := 7585 + 12 * t28) (by omega) (by omega) ?_
    exact cB_L_law_2766 hl0 S hG hX hbl hbA hgh hend K28 kK28 r1 r2 r3 r4 x5 t28 μ648 H locs ls hM hS (lv_sub hl [0, 1, 2, 3, 4, 5] rfl) h
  · have h := h.2 c649
    refine lv_iconst (v := (nI 0)) S.1 S.2.1 dL_law_2104 (by decide) ?_
    exact h.elim
set_option maxRecDepth 100000 in
set_option maxHeartbeats 4000000 in
theorem cB_L_law_2106 {p : Program} {l : Launch} {e : Env} {s : State} {m : MethodId} {args : Array Value} {below : List Frame} {meth : Method} {c : Code} {Z : State → Prop} {G : mgT} {o L : Nat} {xs : Nat → Int32} (hl0 : l.stackTraces = false) (S : CallFix p m c cL_law 9 s args TT RL) (hG : GK G s s.heap) (hX : va_X o L xs s s.heap) (hbl : o < s.heap.size) (hbA : ¬ Ah G o) (hgh : gh G = s.heap.size) (hend : ∀ (pc : Nat) (H : Heap) (ls : Array Slot), decode cL_law pc = .ok (.ireturn, 1) → W p l e room_1 s m args below meth c H [] 603072 7223402 Z (F0 m pc ls [.int 1])) : ∀ (K28 : Option Nat → Option Nat → Option Nat → Option Nat → Int32 → Nat → mmT → Prop) (kK28 : ∀ (r1 : Option Nat) (r2 : Option Nat) (r3 : Option Nat) (r4 : Option Nat) (x5 : Int32) (t28 : Nat) (μ : mmT) (H : Heap) (locs : List Loc) (ls : Array Slot), Mm G μ H → va_S (Ah G) s.heap H locs → lv_has ls 9 [(0, .ref o), (1, va_rf r1), (2, va_rf r2), (3, va_rf r3), (4, va_rf r4), (5, .int x5)] → K28 r1 r2 r3 r4 x5 t28 μ → W p l e room_1 s m args below meth c H locs (652 + 2 * t28) (7573 + 12 * t28) Z (F0 m 28 ls [])) (r1 : Option Nat) (r2 : Option Nat) (r3 : Option Nat) (r4 : Option Nat) (x5 : Int32) (t28 : Nat) (μ : mmT) (H : Heap) (locs : List Loc) (ls : Array Slot), Mm G μ H → va_S (Ah G) s.heap H locs → lv_has ls 9 [(0, .ref o), (1, va_rf r1), (2, va_rf r2), (3, va_rf r3), (4, va_rf r4), (5, .int x5)] → w_L_law_b2106 G o L xs K28 r1 r2 r3 r4 x5 t28 μ → W p l e room_1 s m args below meth c H locs (652 + 2 * t28) (7573 + 12 * t28) Z (F0 m 2106 ls []) := by
  intro K28 kK28 r1 r2 r3 r4 x5 t28 μ H locs ls hM hS hl h
  unfold w_L_law_b2106 at h
  obtain ⟨ht28, h⟩ := h
  refine mz_aload_n (x := r1) S.1 S.2.1 dL_law_2106 rfl (lv_at hl 1 rfl) ?_
  obtain ⟨a650, e651, h⟩ := h
  refine mz_o0 e651 ?_
  obtain ⟨k652, h⟩ := h
  refine mz_V S hG hM hS cf_9 k652 (As := []) (rest := []) (c_X10_messageCountByTotals h) yf_X10_messageCountByTotals tw_422 tw_423 tw_424 ⟨Nat.le_of_ble_eq_true rfl, Nat.le_of_ble_eq_true rfl⟩ ⟨(by show (652 + 2 * t28) + 0 ≤ 603072; omega), (by show (7573 + 12 * t28) + 0 ≤ 7223402; omega)⟩ rfl hl.1 rfl (Nat.le_of_ble_eq_true rfl) dL_law_2107 (fun v9 μ9 H locs hp hM hS => ?_)
  obtain ⟨u653, rfl, e9, h⟩ := hp
  rw [e9] at hM
  refine W.cs (cells' := 652 + 2 * t28) (slots' := 7573 + 12 * t28) (by first | omega | (dsimp only; omega)) (by first | omega | (dsimp only; omega)) ?_
  refine mz_aload_n (x := r2) S.1 S.2.1 dL_law_2110 rfl (lv_at hl 2 rfl) ?_
  obtain ⟨a654, e655, h⟩ := h
  refine mz_o0 e655 ?_
  obtain ⟨k656, h⟩ := h
  refine mz_V S hG hM hS cf_10 k656 (As := []) (rest := [.int u653]) (c_X11_messageCountByTotals h) yf_X11_messageCountByTotals tw_1835 tw_1836 tw_1837 ⟨Nat.le_of_ble_eq_true rfl, Nat.le_of_ble_eq_true rfl⟩ ⟨(by show (652 + 2 * t28) + 0 ≤ 603072; omega), (by show (7573 + 12 * t28) + 0 ≤ 7223402; omega)⟩ rfl hl.1 rfl (Nat.le_of_ble_eq_true rfl) dL_law_2111 (fun v9 μ658 H locs hp hM hS => ?_)
  obtain ⟨u657, rfl, h⟩ := hp
  refine W.cs (cells' := 652 + 2 * t28) (slots' := 7573 + 12 * t28) (by first | omega | (dsimp only; omega)) (by first | omega | (dsimp only; omega)) ?_
  refine lv_icmp_eq (tgt := 2766) S.1 S.2.1 dL_law_2114 (by decide) (fun c659 => ?_) (fun c659 => ?_)
  · have h := h.1 c659
    refine W.widen (k := 654 + 2 * t28) (n := 7585 + 12 * t28) (by omega) (by omega) ?_
    exact cB_L_law_2766 hl0 S hG hX hbl hbA hgh hend K28 kK28 r1 r2 r3 r4 x5 t28 μ658 H locs ls hM hS (lv_sub hl [0, 1, 2, 3, 4, 5] rfl) h
  · have h := h.2 c659
    refine lv_iconst (v := (nI 0)) S.1 S.2.1 dL_law_2117 (by decide) ?_
    exact h.elim
set_option maxRecDepth 100000 in
set_option maxHeartbeats 4000000 in
theorem cB_L_law_2181 {p : Program} {l : Launch} {e : Env} {s : State} {m : MethodId} {args : Array Value} {below : List Frame} {meth : Method} {c : Code} {Z : State → Prop} {G : mgT} {o L : Nat} {xs : Nat → Int32} (hl0 : l.stackTraces = false) (S : CallFix p m c cL_law 9 s args TT RL) (hG : GK G s s.heap) (hX : va_X o L xs s s.heap) (hbl : o < s.heap.size) (hbA : ¬ Ah G o) (hgh : gh G = s.heap.size) (hend : ∀ (pc : Nat) (H : Heap) (ls : Array Slot), decode cL_law pc = .ok (.ireturn, 1) → W p l e room_1 s m args below meth c H [] 603072 7223402 Z (F0 m pc ls [.int 1])) : ∀ (K28 : Option Nat → Option Nat → Option Nat → Option Nat → Int32 → Nat → mmT → Prop) (kK28 : ∀ (r1 : Option Nat) (r2 : Option Nat) (r3 : Option Nat) (r4 : Option Nat) (x5 : Int32) (t28 : Nat) (μ : mmT) (H : Heap) (locs : List Loc) (ls : Array Slot), Mm G μ H → va_S (Ah G) s.heap H locs → lv_has ls 9 [(0, .ref o), (1, va_rf r1), (2, va_rf r2), (3, va_rf r3), (4, va_rf r4), (5, .int x5)] → K28 r1 r2 r3 r4 x5 t28 μ → W p l e room_1 s m args below meth c H locs (652 + 2 * t28) (7573 + 12 * t28) Z (F0 m 28 ls [])) (r1 : Option Nat) (r2 : Option Nat) (r3 : Option Nat) (r4 : Option Nat) (x5 : Int32) (t28 : Nat) (μ : mmT) (H : Heap) (locs : List Loc) (ls : Array Slot), Mm G μ H → va_S (Ah G) s.heap H locs → lv_has ls 9 [(0, .ref o), (1, va_rf r1), (2, va_rf r2), (3, va_rf r3), (4, va_rf r4), (5, .int x5)] → w_L_law_b2181 G o L xs K28 r1 r2 r3 r4 x5 t28 μ → W p l e room_1 s m args below meth c H locs (654 + 2 * t28) (7585 + 12 * t28) Z (F0 m 2181 ls []) := by
  intro K28 kK28 r1 r2 r3 r4 x5 t28 μ H locs ls hM hS hl h
  unfold w_L_law_b2181 at h
  obtain ⟨ht28, h⟩ := h
  refine lv_goto (tgt := 2766) S.1 S.2.1 dL_law_2181 (by decide) ?_
  refine W.widen (k := 654 + 2 * t28) (n := 7585 + 12 * t28) (by omega) (by omega) ?_
  exact cB_L_law_2766 hl0 S hG hX hbl hbA hgh hend K28 kK28 r1 r2 r3 r4 x5 t28 μ H locs ls hM hS (lv_sub hl [0, 1, 2, 3, 4, 5] rfl) h
set_option maxRecDepth 100000 in
set_option maxHeartbeats 4000000 in
theorem cB_L_law_2179 {p : Program} {l : Launch} {e : Env} {s : State} {m : MethodId} {args : Array Value} {below : List Frame} {meth : Method} {c : Code} {Z : State → Prop} {G : mgT} {o L : Nat} {xs : Nat → Int32} (hl0 : l.stackTraces = false) (S : CallFix p m c cL_law 9 s args TT RL) (hG : GK G s s.heap) (hX : va_X o L xs s s.heap) (hbl : o < s.heap.size) (hbA : ¬ Ah G o) (hgh : gh G = s.heap.size) (hend : ∀ (pc : Nat) (H : Heap) (ls : Array Slot), decode cL_law pc = .ok (.ireturn, 1) → W p l e room_1 s m args below meth c H [] 603072 7223402 Z (F0 m pc ls [.int 1])) : ∀ (μ : mmT) (H : Heap) (locs : List Loc) (ls : Array Slot), Mm G μ H → va_S (Ah G) s.heap H locs → lv_has ls 9 [(0, .ref o)] → w_L_law_b2179 G o L xs  μ → W p l e room_1 s m args below meth c H locs 2000 20000 Z (F0 m 2179 ls []) := by
  intro  μ H locs ls hM hS hl h
  unfold w_L_law_b2179 at h
  refine lv_iconst (v := (nI 0)) S.1 S.2.1 dL_law_2179 (by decide) ?_
  exact h.elim
set_option maxRecDepth 100000 in
set_option maxHeartbeats 4000000 in
theorem cB_L_law_2119 {p : Program} {l : Launch} {e : Env} {s : State} {m : MethodId} {args : Array Value} {below : List Frame} {meth : Method} {c : Code} {Z : State → Prop} {G : mgT} {o L : Nat} {xs : Nat → Int32} (hl0 : l.stackTraces = false) (S : CallFix p m c cL_law 9 s args TT RL) (hG : GK G s s.heap) (hX : va_X o L xs s s.heap) (hbl : o < s.heap.size) (hbA : ¬ Ah G o) (hgh : gh G = s.heap.size) (hend : ∀ (pc : Nat) (H : Heap) (ls : Array Slot), decode cL_law pc = .ok (.ireturn, 1) → W p l e room_1 s m args below meth c H [] 603072 7223402 Z (F0 m pc ls [.int 1])) : ∀ (K28 : Option Nat → Option Nat → Option Nat → Option Nat → Int32 → Nat → mmT → Prop) (kK28 : ∀ (r1 : Option Nat) (r2 : Option Nat) (r3 : Option Nat) (r4 : Option Nat) (x5 : Int32) (t28 : Nat) (μ : mmT) (H : Heap) (locs : List Loc) (ls : Array Slot), Mm G μ H → va_S (Ah G) s.heap H locs → lv_has ls 9 [(0, .ref o), (1, va_rf r1), (2, va_rf r2), (3, va_rf r3), (4, va_rf r4), (5, .int x5)] → K28 r1 r2 r3 r4 x5 t28 μ → W p l e room_1 s m args below meth c H locs (652 + 2 * t28) (7573 + 12 * t28) Z (F0 m 28 ls [])) (r1 : Option Nat) (r2 : Option Nat) (r3 : Option Nat) (r4 : Option Nat) (x5 : Int32) (t28 : Nat) (μ : mmT) (H : Heap) (locs : List Loc) (ls : Array Slot), Mm G μ H → va_S (Ah G) s.heap H locs → lv_has ls 9 [(0, .ref o), (1, va_rf r1), (2, va_rf r2), (3, va_rf r3), (4, va_rf r4), (5, .int x5)] → w_L_law_b2119 G o L xs K28 r1 r2 r3 r4 x5 t28 μ → W p l e room_1 s m args below meth c H locs (652 + 2 * t28) (7573 + 12 * t28) Z (F0 m 2119 ls []) := by
  intro K28 kK28 r1 r2 r3 r4 x5 t28 μ H locs ls hM hS hl h
  unfold w_L_law_b2119 at h
  obtain ⟨ht28, h⟩ := h
  refine mz_aload_n (x := r1) S.1 S.2.1 dL_law_2119 rfl (lv_at hl 1 rfl) ?_
  refine mz_aload (x := r4) S.1 S.2.1 dL_law_2120 (lv_at hl 4 rfl) ?_
  refine mz_SH S hG hM hS (As := [va_rf r1, va_rf r4]) (rest := []) (c_L_meanAttempts hl0 h) yh_L_meanAttempts tw_1268 tw_1269 ⟨Nat.le_of_ble_eq_true rfl, Nat.le_of_ble_eq_true rfl⟩ ⟨(by show (652 + 2 * t28) + 1 ≤ 603072; omega), (by show (7573 + 12 * t28) + 6 ≤ 7223402; omega)⟩ rfl hl.1 rfl (Nat.le_of_ble_eq_true rfl) dL_law_2122 (fun v9 μ661 H locs hp hM hS => ?_)
  obtain ⟨u660, rfl, h⟩ := hp
  refine W.cs (cells' := 653 + 2 * t28) (slots' := 7579 + 12 * t28) (by first | omega | (dsimp only; omega)) (by first | omega | (dsimp only; omega)) ?_
  refine lv_istore (lv' := [(6, .int u660), (0, .ref o), (1, va_rf r1), (2, va_rf r2), (3, va_rf r3), (4, va_rf r4), (5, .int x5)]) S.1 S.2.1 dL_law_2125 hl (by decide) rfl (fun ls hl => ?_)
  refine mz_aload_n (x := r2) S.1 S.2.1 dL_law_2127 rfl (lv_at hl 3 rfl) ?_
  obtain ⟨a662, e663, h⟩ := h
  refine mz_o0 e663 ?_
  obtain ⟨k664, h⟩ := h
  refine mz_V S hG hM hS cf_10 k664 (As := []) (rest := []) (c_X11_meanAttempts h) yf_X11_meanAttempts tw_1839 tw_1840 tw_1841 ⟨Nat.le_of_ble_eq_true rfl, Nat.le_of_ble_eq_true rfl⟩ ⟨(by show (653 + 2 * t28) + 0 ≤ 603072; omega), (by show (7579 + 12 * t28) + 0 ≤ 7223402; omega)⟩ rfl hl.1 rfl (Nat.le_of_ble_eq_true rfl) dL_law_2128 (fun v9 μ666 H locs hp hM hS => ?_)
  obtain ⟨u665, rfl, h⟩ := hp
  refine W.cs (cells' := 653 + 2 * t28) (slots' := 7579 + 12 * t28) (by first | omega | (dsimp only; omega)) (by first | omega | (dsimp only; omega)) ?_
  refine lv_dstore (lv' := [(7, .double u665), (6, .int u660), (0, .ref o), (1, va_rf r1), (2, va_rf r2), (3, va_rf r3), (4, va_rf r4), (5, .int x5)]) S.1 S.2.1 dL_law_2131 hl (by decide) rfl (fun ls hl => ?_)
  refine mz_aload_n (x := r2) S.1 S.2.1 dL_law_2133 rfl (lv_at hl 4 rfl) ?_
  refine mz_o0 e663 ?_
  obtain ⟨k667, h⟩ := h
  refine mz_V S hG hM hS cf_10 k667 (As := []) (rest := []) (c_X11_thrown h) yf_X11_thrown tw_1543 tw_1544 tw_1545 ⟨Nat.le_of_ble_eq_true rfl, Nat.le_of_ble_eq_true rfl⟩ ⟨(by show (653 + 2 * t28) + 0 ≤ 603072; omega), (by show (7579 + 12 * t28) + 0 ≤ 7223402; omega)⟩ rfl hl.1 rfl (Nat.le_of_ble_eq_true rfl) dL_law_2134 (fun v9 μ9 H locs hp hM hS => ?_)
  obtain ⟨u668, rfl, e9, h⟩ := hp
  rw [e9] at hM
  refine W.cs (cells' := 653 + 2 * t28) (slots' := 7579 + 12 * t28) (by first | omega | (dsimp only; omega)) (by first | omega | (dsimp only; omega)) ?_
  refine lv_iload S.1 S.2.1 dL_law_2137 (lv_at hl 1 rfl) ?_
  refine lv_icmp_eq (tgt := 2144) S.1 S.2.1 dL_law_2139 (by decide) (fun c669 => ?_) (fun c669 => ?_)
  · have h := h.1 c669
    refine lv_iload S.1 S.2.1 dL_law_2144 (lv_at hl 1 rfl) ?_
    refine lv_if_ne (tgt := 2181) S.1 S.2.1 dL_law_2146 (by decide) (fun c670 => ?_) (fun c670 => ?_)
    · have h := h.1 c670
      refine W.widen (k := 654 + 2 * t28) (n := 7585 + 12 * t28) (by omega) (by omega) ?_
      exact cB_L_law_2181 hl0 S hG hX hbl hbA hgh hend K28 kK28 r1 r2 r3 r4 x5 t28 μ666 H locs ls hM hS (lv_sub hl [2, 3, 4, 5, 6, 7] rfl) h
    · have h := h.2 c670
      refine mz_aload (x := r4) S.1 S.2.1 dL_law_2149 (lv_at hl 6 rfl) ?_
      refine lv_iconst (v := (nI 0)) S.1 S.2.1 dL_law_2151 (by decide) ?_
      obtain ⟨a671, e672, h⟩ := h
      refine mz_o1 e672 ?_
      obtain ⟨k673, h⟩ := h
      obtain ⟨b674, h⟩ := h
      refine mz_dald S hG hM dL_law_2152 k673 b674 ?_
      refine lv_dload S.1 S.2.1 dL_law_2153 (lv_at hl 0 rfl) ?_
      refine lv_dcmp S.1 S.2.1 dL_law_2155 ?_
      refine lv_if_eq (tgt := 2181) S.1 S.2.1 dL_law_2156 (by decide) (fun c675 => ?_) (fun c675 => ?_)
      · have h := h.1 c675
        refine W.widen (k := 654 + 2 * t28) (n := 7585 + 12 * t28) (by omega) (by omega) ?_
        exact cB_L_law_2181 hl0 S hG hX hbl hbA hgh hend K28 kK28 r1 r2 r3 r4 x5 t28 μ666 H locs ls hM hS (lv_sub hl [2, 3, 4, 5, 6, 7] rfl) h
      · have h := h.2 c675
        refine mz_aload (x := r4) S.1 S.2.1 dL_law_2159 (lv_at hl 6 rfl) ?_
        refine lv_iconst (v := (nI 0)) S.1 S.2.1 dL_law_2161 (by decide) ?_
        refine mz_o1 e672 ?_
        obtain ⟨b676, h⟩ := h
        refine mz_dald S hG hM dL_law_2162 k673 b676 ?_
        refine mz_aload (x := r4) S.1 S.2.1 dL_law_2163 (lv_at hl 6 rfl) ?_
        refine lv_iconst (v := (nI 0)) S.1 S.2.1 dL_law_2165 (by decide) ?_
        refine mz_o1 e672 ?_
        obtain ⟨b677, h⟩ := h
        refine mz_dald S hG hM dL_law_2166 k673 b677 ?_
        refine lv_dcmp S.1 S.2.1 dL_law_2167 ?_
        refine lv_if_eq (tgt := 2179) S.1 S.2.1 dL_law_2168 (by decide) (fun c678 => ?_) (fun c678 => ?_)
        · have h := h.1 c678
          refine W.widen (k := 2000) (n := 20000) (by omega) (by omega) ?_
          exact cB_L_law_2179 hl0 S hG hX hbl hbA hgh hend  μ666 H locs ls hM hS (lv_sub hl [2] rfl) h
        · have h := h.2 c678
          refine lv_dload S.1 S.2.1 dL_law_2171 (lv_at hl 0 rfl) ?_
          refine lv_dload S.1 S.2.1 dL_law_2173 (lv_at hl 0 rfl) ?_
          refine lv_dcmp S.1 S.2.1 dL_law_2175 ?_
          refine lv_if_ne (tgt := 2181) S.1 S.2.1 dL_law_2176 (by decide) (fun c679 => ?_) (fun c679 => ?_)
          · have h := h.1 c679
            refine W.widen (k := 654 + 2 * t28) (n := 7585 + 12 * t28) (by omega) (by omega) ?_
            exact cB_L_law_2181 hl0 S hG hX hbl hbA hgh hend K28 kK28 r1 r2 r3 r4 x5 t28 μ666 H locs ls hM hS (lv_sub hl [2, 3, 4, 5, 6, 7] rfl) h
          · have h := h.2 c679
            refine W.widen (k := 2000) (n := 20000) (by omega) (by omega) ?_
            exact cB_L_law_2179 hl0 S hG hX hbl hbA hgh hend  μ666 H locs ls hM hS (lv_sub hl [2] rfl) h
  · have h := h.2 c669
    refine lv_iconst (v := (nI 0)) S.1 S.2.1 dL_law_2142 (by decide) ?_
    exact h.elim
set_option maxRecDepth 100000 in
set_option maxHeartbeats 4000000 in
theorem cB_L_law_2224 {p : Program} {l : Launch} {e : Env} {s : State} {m : MethodId} {args : Array Value} {below : List Frame} {meth : Method} {c : Code} {Z : State → Prop} {G : mgT} {o L : Nat} {xs : Nat → Int32} (hl0 : l.stackTraces = false) (S : CallFix p m c cL_law 9 s args TT RL) (hG : GK G s s.heap) (hX : va_X o L xs s s.heap) (hbl : o < s.heap.size) (hbA : ¬ Ah G o) (hgh : gh G = s.heap.size) (hend : ∀ (pc : Nat) (H : Heap) (ls : Array Slot), decode cL_law pc = .ok (.ireturn, 1) → W p l e room_1 s m args below meth c H [] 603072 7223402 Z (F0 m pc ls [.int 1])) : ∀ (K28 : Option Nat → Option Nat → Option Nat → Option Nat → Int32 → Nat → mmT → Prop) (kK28 : ∀ (r1 : Option Nat) (r2 : Option Nat) (r3 : Option Nat) (r4 : Option Nat) (x5 : Int32) (t28 : Nat) (μ : mmT) (H : Heap) (locs : List Loc) (ls : Array Slot), Mm G μ H → va_S (Ah G) s.heap H locs → lv_has ls 9 [(0, .ref o), (1, va_rf r1), (2, va_rf r2), (3, va_rf r3), (4, va_rf r4), (5, .int x5)] → K28 r1 r2 r3 r4 x5 t28 μ → W p l e room_1 s m args below meth c H locs (652 + 2 * t28) (7573 + 12 * t28) Z (F0 m 28 ls [])) (r1 : Option Nat) (r2 : Option Nat) (r3 : Option Nat) (r4 : Option Nat) (x5 : Int32) (t28 : Nat) (μ : mmT) (H : Heap) (locs : List Loc) (ls : Array Slot), Mm G μ H → va_S (Ah G) s.heap H locs → lv_has ls 9 [(0, .ref o), (1, va_rf r1), (2, va_rf r2), (3, va_rf r3), (4, va_rf r4), (5, .int x5)] → w_L_law_b2224 G o L xs K28 r1 r2 r3 r4 x5 t28 μ → W p l e room_1 s m args below meth c H locs (654 + 2 * t28) (7585 + 12 * t28) Z (F0 m 2224 ls []) := by
  intro K28 kK28 r1 r2 r3 r4 x5 t28 μ H locs ls hM hS hl h
  unfold w_L_law_b2224 at h
  obtain ⟨ht28, h⟩ := h
  refine lv_goto (tgt := 2766) S.1 S.2.1 dL_law_2224 (by decide) ?_
  refine W.widen (k := 654 + 2 * t28) (n := 7585 + 12 * t28) (by omega) (by omega) ?_
  exact cB_L_law_2766 hl0 S hG hX hbl hbA hgh hend K28 kK28 r1 r2 r3 r4 x5 t28 μ H locs ls hM hS (lv_sub hl [0, 1, 2, 3, 4, 5] rfl) h
set_option maxRecDepth 100000 in
set_option maxHeartbeats 4000000 in
theorem cB_L_law_2184 {p : Program} {l : Launch} {e : Env} {s : State} {m : MethodId} {args : Array Value} {below : List Frame} {meth : Method} {c : Code} {Z : State → Prop} {G : mgT} {o L : Nat} {xs : Nat → Int32} (hl0 : l.stackTraces = false) (S : CallFix p m c cL_law 9 s args TT RL) (hG : GK G s s.heap) (hX : va_X o L xs s s.heap) (hbl : o < s.heap.size) (hbA : ¬ Ah G o) (hgh : gh G = s.heap.size) (hend : ∀ (pc : Nat) (H : Heap) (ls : Array Slot), decode cL_law pc = .ok (.ireturn, 1) → W p l e room_1 s m args below meth c H [] 603072 7223402 Z (F0 m pc ls [.int 1])) : ∀ (K28 : Option Nat → Option Nat → Option Nat → Option Nat → Int32 → Nat → mmT → Prop) (kK28 : ∀ (r1 : Option Nat) (r2 : Option Nat) (r3 : Option Nat) (r4 : Option Nat) (x5 : Int32) (t28 : Nat) (μ : mmT) (H : Heap) (locs : List Loc) (ls : Array Slot), Mm G μ H → va_S (Ah G) s.heap H locs → lv_has ls 9 [(0, .ref o), (1, va_rf r1), (2, va_rf r2), (3, va_rf r3), (4, va_rf r4), (5, .int x5)] → K28 r1 r2 r3 r4 x5 t28 μ → W p l e room_1 s m args below meth c H locs (652 + 2 * t28) (7573 + 12 * t28) Z (F0 m 28 ls [])) (r1 : Option Nat) (r2 : Option Nat) (r3 : Option Nat) (r4 : Option Nat) (x5 : Int32) (t28 : Nat) (μ : mmT) (H : Heap) (locs : List Loc) (ls : Array Slot), Mm G μ H → va_S (Ah G) s.heap H locs → lv_has ls 9 [(0, .ref o), (1, va_rf r1), (2, va_rf r2), (3, va_rf r3), (4, va_rf r4), (5, .int x5)] → w_L_law_b2184 G o L xs K28 r1 r2 r3 r4 x5 t28 μ → W p l e room_1 s m args below meth c H locs (652 + 2 * t28) (7573 + 12 * t28) Z (F0 m 2184 ls []) := by
  intro K28 kK28 r1 r2 r3 r4 x5 t28 μ H locs ls hM hS hl h
  unfold w_L_law_b2184 at h
  obtain ⟨ht28, h⟩ := h
  refine mz_aload_n (x := r1) S.1 S.2.1 dL_law_2184 rfl (lv_at hl 1 rfl) ?_
  refine mz_aload_n (x := r3) S.1 S.2.1 dL_law_2185 rfl (lv_at hl 3 rfl) ?_
  refine mz_SH S hG hM hS (As := [va_rf r1, va_rf r3]) (rest := []) (c_L_meanAttemptsBits hl0 h) yh_L_meanAttemptsBits tw_1300 tw_1301 ⟨Nat.le_of_ble_eq_true rfl, Nat.le_of_ble_eq_true rfl⟩ ⟨(by show (652 + 2 * t28) + 1 ≤ 603072; omega), (by show (7573 + 12 * t28) + 6 ≤ 7223402; omega)⟩ rfl hl.1 rfl (Nat.le_of_ble_eq_true rfl) dL_law_2186 (fun v9 μ681 H locs hp hM hS => ?_)
  obtain ⟨u680, rfl, h⟩ := hp
  refine W.cs (cells' := 653 + 2 * t28) (slots' := 7579 + 12 * t28) (by first | omega | (dsimp only; omega)) (by first | omega | (dsimp only; omega)) ?_
  refine lv_istore (lv' := [(6, .int u680), (0, .ref o), (1, va_rf r1), (2, va_rf r2), (3, va_rf r3), (4, va_rf r4), (5, .int x5)]) S.1 S.2.1 dL_law_2189 hl (by decide) rfl (fun ls hl => ?_)
  refine mz_aload_n (x := r2) S.1 S.2.1 dL_law_2191 rfl (lv_at hl 3 rfl) ?_
  obtain ⟨a682, e683, h⟩ := h
  refine mz_o0 e683 ?_
  obtain ⟨k684, h⟩ := h
  refine mz_V S hG hM hS cf_10 k684 (As := []) (rest := []) (c_X11_meanAttemptsBits h) yf_X11_meanAttemptsBits tw_1847 tw_1848 tw_1849 ⟨Nat.le_of_ble_eq_true rfl, Nat.le_of_ble_eq_true rfl⟩ ⟨(by show (653 + 2 * t28) + 0 ≤ 603072; omega), (by show (7579 + 12 * t28) + 0 ≤ 7223402; omega)⟩ rfl hl.1 rfl (Nat.le_of_ble_eq_true rfl) dL_law_2192 (fun v9 μ686 H locs hp hM hS => ?_)
  obtain ⟨u685, rfl, h⟩ := hp
  refine W.cs (cells' := 653 + 2 * t28) (slots' := 7579 + 12 * t28) (by first | omega | (dsimp only; omega)) (by first | omega | (dsimp only; omega)) ?_
  refine lv_lstore (lv' := [(7, .long u685), (6, .int u680), (0, .ref o), (1, va_rf r1), (2, va_rf r2), (3, va_rf r3), (4, va_rf r4), (5, .int x5)]) S.1 S.2.1 dL_law_2195 hl (by decide) rfl (fun ls hl => ?_)
  refine mz_aload_n (x := r2) S.1 S.2.1 dL_law_2197 rfl (lv_at hl 4 rfl) ?_
  refine mz_o0 e683 ?_
  obtain ⟨k687, h⟩ := h
  refine mz_V S hG hM hS cf_10 k687 (As := []) (rest := []) (c_X11_thrown h) yf_X11_thrown tw_1543 tw_1544 tw_1545 ⟨Nat.le_of_ble_eq_true rfl, Nat.le_of_ble_eq_true rfl⟩ ⟨(by show (653 + 2 * t28) + 0 ≤ 603072; omega), (by show (7579 + 12 * t28) + 0 ≤ 7223402; omega)⟩ rfl hl.1 rfl (Nat.le_of_ble_eq_true rfl) dL_law_2198 (fun v9 μ9 H locs hp hM hS => ?_)
  obtain ⟨u688, rfl, e9, h⟩ := hp
  rw [e9] at hM
  refine W.cs (cells' := 653 + 2 * t28) (slots' := 7579 + 12 * t28) (by first | omega | (dsimp only; omega)) (by first | omega | (dsimp only; omega)) ?_
  refine lv_iload S.1 S.2.1 dL_law_2201 (lv_at hl 1 rfl) ?_
  refine lv_icmp_eq (tgt := 2208) S.1 S.2.1 dL_law_2203 (by decide) (fun c689 => ?_) (fun c689 => ?_)
  · have h := h.1 c689
    refine lv_iload S.1 S.2.1 dL_law_2208 (lv_at hl 1 rfl) ?_
    refine lv_if_ne (tgt := 2224) S.1 S.2.1 dL_law_2210 (by decide) (fun c690 => ?_) (fun c690 => ?_)
    · have h := h.1 c690
      refine W.widen (k := 654 + 2 * t28) (n := 7585 + 12 * t28) (by omega) (by omega) ?_
      exact cB_L_law_2224 hl0 S hG hX hbl hbA hgh hend K28 kK28 r1 r2 r3 r4 x5 t28 μ686 H locs ls hM hS (lv_sub hl [2, 3, 4, 5, 6, 7] rfl) h
    · have h := h.2 c690
      refine mz_aload_n (x := r3) S.1 S.2.1 dL_law_2213 rfl (lv_at hl 5 rfl) ?_
      refine lv_iconst (v := (nI 0)) S.1 S.2.1 dL_law_2214 (by decide) ?_
      obtain ⟨a691, e692, h⟩ := h
      refine mz_o1 e692 ?_
      obtain ⟨k693, h⟩ := h
      obtain ⟨b694, h⟩ := h
      refine mz_lald S hG hM dL_law_2215 k693 b694 ?_
      refine lv_lload S.1 S.2.1 dL_law_2216 (lv_at hl 0 rfl) ?_
      refine W.lcmp S.1 S.2.1 dL_law_2218 ?_
      refine lv_if_eq (tgt := 2224) S.1 S.2.1 dL_law_2219 (by decide) (fun c695 => ?_) (fun c695 => ?_)
      · have h := h.1 c695
        refine W.widen (k := 654 + 2 * t28) (n := 7585 + 12 * t28) (by omega) (by omega) ?_
        exact cB_L_law_2224 hl0 S hG hX hbl hbA hgh hend K28 kK28 r1 r2 r3 r4 x5 t28 μ686 H locs ls hM hS (lv_sub hl [2, 3, 4, 5, 6, 7] rfl) h
      · have h := h.2 c695
        refine lv_iconst (v := (nI 0)) S.1 S.2.1 dL_law_2222 (by decide) ?_
        exact h.elim
  · have h := h.2 c689
    refine lv_iconst (v := (nI 0)) S.1 S.2.1 dL_law_2206 (by decide) ?_
    exact h.elim
set_option maxRecDepth 100000 in
set_option maxHeartbeats 4000000 in
theorem cB_L_law_2290 {p : Program} {l : Launch} {e : Env} {s : State} {m : MethodId} {args : Array Value} {below : List Frame} {meth : Method} {c : Code} {Z : State → Prop} {G : mgT} {o L : Nat} {xs : Nat → Int32} (hl0 : l.stackTraces = false) (S : CallFix p m c cL_law 9 s args TT RL) (hG : GK G s s.heap) (hX : va_X o L xs s s.heap) (hbl : o < s.heap.size) (hbA : ¬ Ah G o) (hgh : gh G = s.heap.size) (hend : ∀ (pc : Nat) (H : Heap) (ls : Array Slot), decode cL_law pc = .ok (.ireturn, 1) → W p l e room_1 s m args below meth c H [] 603072 7223402 Z (F0 m pc ls [.int 1])) : ∀ (K28 : Option Nat → Option Nat → Option Nat → Option Nat → Int32 → Nat → mmT → Prop) (kK28 : ∀ (r1 : Option Nat) (r2 : Option Nat) (r3 : Option Nat) (r4 : Option Nat) (x5 : Int32) (t28 : Nat) (μ : mmT) (H : Heap) (locs : List Loc) (ls : Array Slot), Mm G μ H → va_S (Ah G) s.heap H locs → lv_has ls 9 [(0, .ref o), (1, va_rf r1), (2, va_rf r2), (3, va_rf r3), (4, va_rf r4), (5, .int x5)] → K28 r1 r2 r3 r4 x5 t28 μ → W p l e room_1 s m args below meth c H locs (652 + 2 * t28) (7573 + 12 * t28) Z (F0 m 28 ls [])) (r1 : Option Nat) (r2 : Option Nat) (r3 : Option Nat) (r4 : Option Nat) (x5 : Int32) (t28 : Nat) (μ : mmT) (H : Heap) (locs : List Loc) (ls : Array Slot), Mm G μ H → va_S (Ah G) s.heap H locs → lv_has ls 9 [(0, .ref o), (1, va_rf r1), (2, va_rf r2), (3, va_rf r3), (4, va_rf r4), (5, .int x5)] → w_L_law_b2290 G o L xs K28 r1 r2 r3 r4 x5 t28 μ → W p l e room_1 s m args below meth c H locs (654 + 2 * t28) (7585 + 12 * t28) Z (F0 m 2290 ls []) := by
  intro K28 kK28 r1 r2 r3 r4 x5 t28 μ H locs ls hM hS hl h
  unfold w_L_law_b2290 at h
  obtain ⟨ht28, h⟩ := h
  refine lv_goto (tgt := 2766) S.1 S.2.1 dL_law_2290 (by decide) ?_
  refine W.widen (k := 654 + 2 * t28) (n := 7585 + 12 * t28) (by omega) (by omega) ?_
  exact cB_L_law_2766 hl0 S hG hX hbl hbA hgh hend K28 kK28 r1 r2 r3 r4 x5 t28 μ H locs ls hM hS (lv_sub hl [0, 1, 2, 3, 4, 5] rfl) h
set_option maxRecDepth 100000 in
set_option maxHeartbeats 4000000 in
theorem cB_L_law_2288 {p : Program} {l : Launch} {e : Env} {s : State} {m : MethodId} {args : Array Value} {below : List Frame} {meth : Method} {c : Code} {Z : State → Prop} {G : mgT} {o L : Nat} {xs : Nat → Int32} (hl0 : l.stackTraces = false) (S : CallFix p m c cL_law 9 s args TT RL) (hG : GK G s s.heap) (hX : va_X o L xs s s.heap) (hbl : o < s.heap.size) (hbA : ¬ Ah G o) (hgh : gh G = s.heap.size) (hend : ∀ (pc : Nat) (H : Heap) (ls : Array Slot), decode cL_law pc = .ok (.ireturn, 1) → W p l e room_1 s m args below meth c H [] 603072 7223402 Z (F0 m pc ls [.int 1])) : ∀ (μ : mmT) (H : Heap) (locs : List Loc) (ls : Array Slot), Mm G μ H → va_S (Ah G) s.heap H locs → lv_has ls 9 [(0, .ref o)] → w_L_law_b2288 G o L xs  μ → W p l e room_1 s m args below meth c H locs 2000 20000 Z (F0 m 2288 ls []) := by
  intro  μ H locs ls hM hS hl h
  unfold w_L_law_b2288 at h
  refine lv_iconst (v := (nI 0)) S.1 S.2.1 dL_law_2288 (by decide) ?_
  exact h.elim
set_option maxRecDepth 100000 in
set_option maxHeartbeats 4000000 in
theorem cB_L_law_2227 {p : Program} {l : Launch} {e : Env} {s : State} {m : MethodId} {args : Array Value} {below : List Frame} {meth : Method} {c : Code} {Z : State → Prop} {G : mgT} {o L : Nat} {xs : Nat → Int32} (hl0 : l.stackTraces = false) (S : CallFix p m c cL_law 9 s args TT RL) (hG : GK G s s.heap) (hX : va_X o L xs s s.heap) (hbl : o < s.heap.size) (hbA : ¬ Ah G o) (hgh : gh G = s.heap.size) (hend : ∀ (pc : Nat) (H : Heap) (ls : Array Slot), decode cL_law pc = .ok (.ireturn, 1) → W p l e room_1 s m args below meth c H [] 603072 7223402 Z (F0 m pc ls [.int 1])) : ∀ (K28 : Option Nat → Option Nat → Option Nat → Option Nat → Int32 → Nat → mmT → Prop) (kK28 : ∀ (r1 : Option Nat) (r2 : Option Nat) (r3 : Option Nat) (r4 : Option Nat) (x5 : Int32) (t28 : Nat) (μ : mmT) (H : Heap) (locs : List Loc) (ls : Array Slot), Mm G μ H → va_S (Ah G) s.heap H locs → lv_has ls 9 [(0, .ref o), (1, va_rf r1), (2, va_rf r2), (3, va_rf r3), (4, va_rf r4), (5, .int x5)] → K28 r1 r2 r3 r4 x5 t28 μ → W p l e room_1 s m args below meth c H locs (652 + 2 * t28) (7573 + 12 * t28) Z (F0 m 28 ls [])) (r1 : Option Nat) (r2 : Option Nat) (r3 : Option Nat) (r4 : Option Nat) (x5 : Int32) (t28 : Nat) (μ : mmT) (H : Heap) (locs : List Loc) (ls : Array Slot), Mm G μ H → va_S (Ah G) s.heap H locs → lv_has ls 9 [(0, .ref o), (1, va_rf r1), (2, va_rf r2), (3, va_rf r3), (4, va_rf r4), (5, .int x5)] → w_L_law_b2227 G o L xs K28 r1 r2 r3 r4 x5 t28 μ → W p l e room_1 s m args below meth c H locs (652 + 2 * t28) (7573 + 12 * t28) Z (F0 m 2227 ls []) := by
  intro K28 kK28 r1 r2 r3 r4 x5 t28 μ H locs ls hM hS hl h
  unfold w_L_law_b2227 at h
  obtain ⟨ht28, h⟩ := h
  refine mz_aload_n (x := r1) S.1 S.2.1 dL_law_2227 rfl (lv_at hl 1 rfl) ?_
  refine mz_aload (x := r4) S.1 S.2.1 dL_law_2228 (lv_at hl 4 rfl) ?_
  refine mz_SH S hG hM hS (As := [va_rf r1, va_rf r4]) (rest := []) (c_L_deliveryRate hl0 h) yh_L_deliveryRate tw_1311 tw_1312 ⟨Nat.le_of_ble_eq_true rfl, Nat.le_of_ble_eq_true rfl⟩ ⟨(by show (652 + 2 * t28) + 1 ≤ 603072; omega), (by show (7573 + 12 * t28) + 6 ≤ 7223402; omega)⟩ rfl hl.1 rfl (Nat.le_of_ble_eq_true rfl) dL_law_2230 (fun v9 μ697 H locs hp hM hS => ?_)
  obtain ⟨u696, rfl, h⟩ := hp
  refine W.cs (cells' := 653 + 2 * t28) (slots' := 7579 + 12 * t28) (by first | omega | (dsimp only; omega)) (by first | omega | (dsimp only; omega)) ?_
  refine lv_istore (lv' := [(6, .int u696), (0, .ref o), (1, va_rf r1), (2, va_rf r2), (3, va_rf r3), (4, va_rf r4), (5, .int x5)]) S.1 S.2.1 dL_law_2233 hl (by decide) rfl (fun ls hl => ?_)
  refine mz_aload_n (x := r2) S.1 S.2.1 dL_law_2235 rfl (lv_at hl 3 rfl) ?_
  obtain ⟨a698, e699, h⟩ := h
  refine mz_o0 e699 ?_
  obtain ⟨k700, h⟩ := h
  refine mz_V S hG hM hS cf_10 k700 (As := []) (rest := []) (c_X11_deliveryRate h) yf_X11_deliveryRate tw_1861 tw_1862 tw_1863 ⟨Nat.le_of_ble_eq_true rfl, Nat.le_of_ble_eq_true rfl⟩ ⟨(by show (653 + 2 * t28) + 0 ≤ 603072; omega), (by show (7579 + 12 * t28) + 0 ≤ 7223402; omega)⟩ rfl hl.1 rfl (Nat.le_of_ble_eq_true rfl) dL_law_2236 (fun v9 μ702 H locs hp hM hS => ?_)
  obtain ⟨u701, rfl, h⟩ := hp
  refine W.cs (cells' := 653 + 2 * t28) (slots' := 7579 + 12 * t28) (by first | omega | (dsimp only; omega)) (by first | omega | (dsimp only; omega)) ?_
  refine lv_fstore (lv' := [(7, .float u701), (6, .int u696), (0, .ref o), (1, va_rf r1), (2, va_rf r2), (3, va_rf r3), (4, va_rf r4), (5, .int x5)]) S.1 S.2.1 dL_law_2239 hl (by decide) rfl (fun ls hl => ?_)
  refine mz_aload_n (x := r2) S.1 S.2.1 dL_law_2241 rfl (lv_at hl 4 rfl) ?_
  refine mz_o0 e699 ?_
  obtain ⟨k703, h⟩ := h
  refine mz_V S hG hM hS cf_10 k703 (As := []) (rest := []) (c_X11_thrown h) yf_X11_thrown tw_1543 tw_1544 tw_1545 ⟨Nat.le_of_ble_eq_true rfl, Nat.le_of_ble_eq_true rfl⟩ ⟨(by show (653 + 2 * t28) + 0 ≤ 603072; omega), (by show (7579 + 12 * t28) + 0 ≤ 7223402; omega)⟩ rfl hl.1 rfl (Nat.le_of_ble_eq_true rfl) dL_law_2242 (fun v9 μ9 H locs hp hM hS => ?_)
  obtain ⟨u704, rfl, e9, h⟩ := hp
  rw [e9] at hM
  refine W.cs (cells' := 653 + 2 * t28) (slots' := 7579 + 12 * t28) (by first | omega | (dsimp only; omega)) (by first | omega | (dsimp only; omega)) ?_
  refine lv_iload S.1 S.2.1 dL_law_2245 (lv_at hl 1 rfl) ?_
  refine lv_icmp_eq (tgt := 2252) S.1 S.2.1 dL_law_2247 (by decide) (fun c705 => ?_) (fun c705 => ?_)
  · have h := h.1 c705
    refine lv_iload S.1 S.2.1 dL_law_2252 (lv_at hl 1 rfl) ?_
    refine lv_if_ne (tgt := 2290) S.1 S.2.1 dL_law_2254 (by decide) (fun c706 => ?_) (fun c706 => ?_)
    · have h := h.1 c706
      refine W.widen (k := 654 + 2 * t28) (n := 7585 + 12 * t28) (by omega) (by omega) ?_
      exact cB_L_law_2290 hl0 S hG hX hbl hbA hgh hend K28 kK28 r1 r2 r3 r4 x5 t28 μ702 H locs ls hM hS (lv_sub hl [2, 3, 4, 5, 6, 7] rfl) h
    · have h := h.2 c706
      refine mz_aload (x := r4) S.1 S.2.1 dL_law_2257 (lv_at hl 6 rfl) ?_
      refine lv_iconst (v := (nI 0)) S.1 S.2.1 dL_law_2259 (by decide) ?_
      obtain ⟨a707, e708, h⟩ := h
      refine mz_o1 e708 ?_
      obtain ⟨k709, h⟩ := h
      obtain ⟨b710, h⟩ := h
      refine mz_dald S hG hM dL_law_2260 k709 b710 ?_
      refine lv_fload S.1 S.2.1 dL_law_2261 (lv_at hl 0 rfl) ?_
      obtain ⟨g711, h⟩ := h
      refine lv_f2d S.1 S.2.1 dL_law_2263 g711 ?_
      refine lv_dcmp S.1 S.2.1 dL_law_2264 ?_
      refine lv_if_eq (tgt := 2290) S.1 S.2.1 dL_law_2265 (by decide) (fun c712 => ?_) (fun c712 => ?_)
      · have h := h.1 c712
        refine W.widen (k := 654 + 2 * t28) (n := 7585 + 12 * t28) (by omega) (by omega) ?_
        exact cB_L_law_2290 hl0 S hG hX hbl hbA hgh hend K28 kK28 r1 r2 r3 r4 x5 t28 μ702 H locs ls hM hS (lv_sub hl [2, 3, 4, 5, 6, 7] rfl) h
      · have h := h.2 c712
        refine mz_aload (x := r4) S.1 S.2.1 dL_law_2268 (lv_at hl 6 rfl) ?_
        refine lv_iconst (v := (nI 0)) S.1 S.2.1 dL_law_2270 (by decide) ?_
        refine mz_o1 e708 ?_
        obtain ⟨b713, h⟩ := h
        refine mz_dald S hG hM dL_law_2271 k709 b713 ?_
        refine mz_aload (x := r4) S.1 S.2.1 dL_law_2272 (lv_at hl 6 rfl) ?_
        refine lv_iconst (v := (nI 0)) S.1 S.2.1 dL_law_2274 (by decide) ?_
        refine mz_o1 e708 ?_
        obtain ⟨b714, h⟩ := h
        refine mz_dald S hG hM dL_law_2275 k709 b714 ?_
        refine lv_dcmp S.1 S.2.1 dL_law_2276 ?_
        refine lv_if_eq (tgt := 2288) S.1 S.2.1 dL_law_2277 (by decide) (fun c715 => ?_) (fun c715 => ?_)
        · have h := h.1 c715
          refine W.widen (k := 2000) (n := 20000) (by omega) (by omega) ?_
          exact cB_L_law_2288 hl0 S hG hX hbl hbA hgh hend  μ702 H locs ls hM hS (lv_sub hl [2] rfl) h
        · have h := h.2 c715
          refine lv_fload S.1 S.2.1 dL_law_2280 (lv_at hl 0 rfl) ?_
          refine lv_fload S.1 S.2.1 dL_law_2282 (lv_at hl 0 rfl) ?_
          refine lv_fcmp S.1 S.2.1 dL_law_2284 ?_
          refine lv_if_ne (tgt := 2290) S.1 S.2.1 dL_law_2285 (by decide) (fun c716 => ?_) (fun c716 => ?_)
          · have h := h.1 c716
            refine W.widen (k := 654 + 2 * t28) (n := 7585 + 12 * t28) (by omega) (by omega) ?_
            exact cB_L_law_2290 hl0 S hG hX hbl hbA hgh hend K28 kK28 r1 r2 r3 r4 x5 t28 μ702 H locs ls hM hS (lv_sub hl [2, 3, 4, 5, 6, 7] rfl) h
          · have h := h.2 c716
            refine W.widen (k := 2000) (n := 20000) (by omega) (by omega) ?_
            exact cB_L_law_2288 hl0 S hG hX hbl hbA hgh hend  μ702 H locs ls hM hS (lv_sub hl [2] rfl) h
  · have h := h.2 c705
    refine lv_iconst (v := (nI 0)) S.1 S.2.1 dL_law_2250 (by decide) ?_
    exact h.elim
set_option maxRecDepth 100000 in
set_option maxHeartbeats 4000000 in
theorem cB_L_law_2334 {p : Program} {l : Launch} {e : Env} {s : State} {m : MethodId} {args : Array Value} {below : List Frame} {meth : Method} {c : Code} {Z : State → Prop} {G : mgT} {o L : Nat} {xs : Nat → Int32} (hl0 : l.stackTraces = false) (S : CallFix p m c cL_law 9 s args TT RL) (hG : GK G s s.heap) (hX : va_X o L xs s s.heap) (hbl : o < s.heap.size) (hbA : ¬ Ah G o) (hgh : gh G = s.heap.size) (hend : ∀ (pc : Nat) (H : Heap) (ls : Array Slot), decode cL_law pc = .ok (.ireturn, 1) → W p l e room_1 s m args below meth c H [] 603072 7223402 Z (F0 m pc ls [.int 1])) : ∀ (K28 : Option Nat → Option Nat → Option Nat → Option Nat → Int32 → Nat → mmT → Prop) (kK28 : ∀ (r1 : Option Nat) (r2 : Option Nat) (r3 : Option Nat) (r4 : Option Nat) (x5 : Int32) (t28 : Nat) (μ : mmT) (H : Heap) (locs : List Loc) (ls : Array Slot), Mm G μ H → va_S (Ah G) s.heap H locs → lv_has ls 9 [(0, .ref o), (1, va_rf r1), (2, va_rf r2), (3, va_rf r3), (4, va_rf r4), (5, .int x5)] → K28 r1 r2 r3 r4 x5 t28 μ → W p l e room_1 s m args below meth c H locs (652 + 2 * t28) (7573 + 12 * t28) Z (F0 m 28 ls [])) (r1 : Option Nat) (r2 : Option Nat) (r3 : Option Nat) (r4 : Option Nat) (x5 : Int32) (t28 : Nat) (μ : mmT) (H : Heap) (locs : List Loc) (ls : Array Slot), Mm G μ H → va_S (Ah G) s.heap H locs → lv_has ls 9 [(0, .ref o), (1, va_rf r1), (2, va_rf r2), (3, va_rf r3), (4, va_rf r4), (5, .int x5)] → w_L_law_b2334 G o L xs K28 r1 r2 r3 r4 x5 t28 μ → W p l e room_1 s m args below meth c H locs (654 + 2 * t28) (7585 + 12 * t28) Z (F0 m 2334 ls []) := by
  intro K28 kK28 r1 r2 r3 r4 x5 t28 μ H locs ls hM hS hl h
  unfold w_L_law_b2334 at h
  obtain ⟨ht28, h⟩ := h
  refine lv_goto (tgt := 2766) S.1 S.2.1 dL_law_2334 (by decide) ?_
  refine W.widen (k := 654 + 2 * t28) (n := 7585 + 12 * t28) (by omega) (by omega) ?_
  exact cB_L_law_2766 hl0 S hG hX hbl hbA hgh hend K28 kK28 r1 r2 r3 r4 x5 t28 μ H locs ls hM hS (lv_sub hl [0, 1, 2, 3, 4, 5] rfl) h
set_option maxRecDepth 100000 in
set_option maxHeartbeats 4000000 in
theorem cB_L_law_2293 {p : Program} {l : Launch} {e : Env} {s : State} {m : MethodId} {args : Array Value} {below : List Frame} {meth : Method} {c : Code} {Z : State → Prop} {G : mgT} {o L : Nat} {xs : Nat → Int32} (hl0 : l.stackTraces = false) (S : CallFix p m c cL_law 9 s args TT RL) (hG : GK G s s.heap) (hX : va_X o L xs s s.heap) (hbl : o < s.heap.size) (hbA : ¬ Ah G o) (hgh : gh G = s.heap.size) (hend : ∀ (pc : Nat) (H : Heap) (ls : Array Slot), decode cL_law pc = .ok (.ireturn, 1) → W p l e room_1 s m args below meth c H [] 603072 7223402 Z (F0 m pc ls [.int 1])) : ∀ (K28 : Option Nat → Option Nat → Option Nat → Option Nat → Int32 → Nat → mmT → Prop) (kK28 : ∀ (r1 : Option Nat) (r2 : Option Nat) (r3 : Option Nat) (r4 : Option Nat) (x5 : Int32) (t28 : Nat) (μ : mmT) (H : Heap) (locs : List Loc) (ls : Array Slot), Mm G μ H → va_S (Ah G) s.heap H locs → lv_has ls 9 [(0, .ref o), (1, va_rf r1), (2, va_rf r2), (3, va_rf r3), (4, va_rf r4), (5, .int x5)] → K28 r1 r2 r3 r4 x5 t28 μ → W p l e room_1 s m args below meth c H locs (652 + 2 * t28) (7573 + 12 * t28) Z (F0 m 28 ls [])) (r1 : Option Nat) (r2 : Option Nat) (r3 : Option Nat) (r4 : Option Nat) (x5 : Int32) (t28 : Nat) (μ : mmT) (H : Heap) (locs : List Loc) (ls : Array Slot), Mm G μ H → va_S (Ah G) s.heap H locs → lv_has ls 9 [(0, .ref o), (1, va_rf r1), (2, va_rf r2), (3, va_rf r3), (4, va_rf r4), (5, .int x5)] → w_L_law_b2293 G o L xs K28 r1 r2 r3 r4 x5 t28 μ → W p l e room_1 s m args below meth c H locs (652 + 2 * t28) (7573 + 12 * t28) Z (F0 m 2293 ls []) := by
  intro K28 kK28 r1 r2 r3 r4 x5 t28 μ H locs ls hM hS hl h
  unfold w_L_law_b2293 at h
  obtain ⟨ht28, h⟩ := h
  refine mz_aload_n (x := r1) S.1 S.2.1 dL_law_2293 rfl (lv_at hl 1 rfl) ?_
  refine mz_aload_n (x := r3) S.1 S.2.1 dL_law_2294 rfl (lv_at hl 3 rfl) ?_
  refine mz_SH S hG hM hS (As := [va_rf r1, va_rf r3]) (rest := []) (c_L_deliveryRateBits hl0 h) yh_L_deliveryRateBits tw_1323 tw_1324 ⟨Nat.le_of_ble_eq_true rfl, Nat.le_of_ble_eq_true rfl⟩ ⟨(by show (652 + 2 * t28) + 1 ≤ 603072; omega), (by show (7573 + 12 * t28) + 6 ≤ 7223402; omega)⟩ rfl hl.1 rfl (Nat.le_of_ble_eq_true rfl) dL_law_2295 (fun v9 μ718 H locs hp hM hS => ?_)
  obtain ⟨u717, rfl, h⟩ := hp
  refine W.cs (cells' := 653 + 2 * t28) (slots' := 7579 + 12 * t28) (by first | omega | (dsimp only; omega)) (by first | omega | (dsimp only; omega)) ?_
  refine lv_istore (lv' := [(6, .int u717), (0, .ref o), (1, va_rf r1), (2, va_rf r2), (3, va_rf r3), (4, va_rf r4), (5, .int x5)]) S.1 S.2.1 dL_law_2298 hl (by decide) rfl (fun ls hl => ?_)
  refine mz_aload_n (x := r2) S.1 S.2.1 dL_law_2300 rfl (lv_at hl 3 rfl) ?_
  obtain ⟨a719, e720, h⟩ := h
  refine mz_o0 e720 ?_
  obtain ⟨k721, h⟩ := h
  refine mz_V S hG hM hS cf_10 k721 (As := []) (rest := []) (c_X11_deliveryRateBits h) yf_X11_deliveryRateBits tw_1869 tw_1870 tw_1871 ⟨Nat.le_of_ble_eq_true rfl, Nat.le_of_ble_eq_true rfl⟩ ⟨(by show (653 + 2 * t28) + 0 ≤ 603072; omega), (by show (7579 + 12 * t28) + 0 ≤ 7223402; omega)⟩ rfl hl.1 rfl (Nat.le_of_ble_eq_true rfl) dL_law_2301 (fun v9 μ723 H locs hp hM hS => ?_)
  obtain ⟨u722, rfl, h⟩ := hp
  refine W.cs (cells' := 653 + 2 * t28) (slots' := 7579 + 12 * t28) (by first | omega | (dsimp only; omega)) (by first | omega | (dsimp only; omega)) ?_
  refine lv_istore (lv' := [(7, .int u722), (6, .int u717), (0, .ref o), (1, va_rf r1), (2, va_rf r2), (3, va_rf r3), (4, va_rf r4), (5, .int x5)]) S.1 S.2.1 dL_law_2304 hl (by decide) rfl (fun ls hl => ?_)
  refine mz_aload_n (x := r2) S.1 S.2.1 dL_law_2306 rfl (lv_at hl 4 rfl) ?_
  refine mz_o0 e720 ?_
  obtain ⟨k724, h⟩ := h
  refine mz_V S hG hM hS cf_10 k724 (As := []) (rest := []) (c_X11_thrown h) yf_X11_thrown tw_1543 tw_1544 tw_1545 ⟨Nat.le_of_ble_eq_true rfl, Nat.le_of_ble_eq_true rfl⟩ ⟨(by show (653 + 2 * t28) + 0 ≤ 603072; omega), (by show (7579 + 12 * t28) + 0 ≤ 7223402; omega)⟩ rfl hl.1 rfl (Nat.le_of_ble_eq_true rfl) dL_law_2307 (fun v9 μ9 H locs hp hM hS => ?_)
  obtain ⟨u725, rfl, e9, h⟩ := hp
  rw [e9] at hM
  refine W.cs (cells' := 653 + 2 * t28) (slots' := 7579 + 12 * t28) (by first | omega | (dsimp only; omega)) (by first | omega | (dsimp only; omega)) ?_
  refine lv_iload S.1 S.2.1 dL_law_2310 (lv_at hl 1 rfl) ?_
  refine lv_icmp_eq (tgt := 2317) S.1 S.2.1 dL_law_2312 (by decide) (fun c726 => ?_) (fun c726 => ?_)
  · have h := h.1 c726
    refine lv_iload S.1 S.2.1 dL_law_2317 (lv_at hl 1 rfl) ?_
    refine lv_if_ne (tgt := 2334) S.1 S.2.1 dL_law_2319 (by decide) (fun c727 => ?_) (fun c727 => ?_)
    · have h := h.1 c727
      refine W.widen (k := 654 + 2 * t28) (n := 7585 + 12 * t28) (by omega) (by omega) ?_
      exact cB_L_law_2334 hl0 S hG hX hbl hbA hgh hend K28 kK28 r1 r2 r3 r4 x5 t28 μ723 H locs ls hM hS (lv_sub hl [2, 3, 4, 5, 6, 7] rfl) h
    · have h := h.2 c727
      refine mz_aload_n (x := r3) S.1 S.2.1 dL_law_2322 rfl (lv_at hl 5 rfl) ?_
      refine lv_iconst (v := (nI 0)) S.1 S.2.1 dL_law_2323 (by decide) ?_
      obtain ⟨a728, e729, h⟩ := h
      refine mz_o1 e729 ?_
      obtain ⟨k730, h⟩ := h
      obtain ⟨b731, h⟩ := h
      refine mz_lald S hG hM dL_law_2324 k730 b731 ?_
      refine lv_iload S.1 S.2.1 dL_law_2325 (lv_at hl 0 rfl) ?_
      refine lv_i2l S.1 S.2.1 dL_law_2327 rfl ?_
      refine W.lcmp S.1 S.2.1 dL_law_2328 ?_
      refine lv_if_eq (tgt := 2334) S.1 S.2.1 dL_law_2329 (by decide) (fun c732 => ?_) (fun c732 => ?_)
      · have h := h.1 c732
        refine W.widen (k := 654 + 2 * t28) (n := 7585 + 12 * t28) (by omega) (by omega) ?_
        exact cB_L_law_2334 hl0 S hG hX hbl hbA hgh hend K28 kK28 r1 r2 r3 r4 x5 t28 μ723 H locs ls hM hS (lv_sub hl [2, 3, 4, 5, 6, 7] rfl) h
      · have h := h.2 c732
        refine lv_iconst (v := (nI 0)) S.1 S.2.1 dL_law_2332 (by decide) ?_
        exact h.elim
  · have h := h.2 c726
    refine lv_iconst (v := (nI 0)) S.1 S.2.1 dL_law_2315 (by decide) ?_
    exact h.elim
set_option maxRecDepth 100000 in
set_option maxHeartbeats 4000000 in
theorem cB_L_law_2337 {p : Program} {l : Launch} {e : Env} {s : State} {m : MethodId} {args : Array Value} {below : List Frame} {meth : Method} {c : Code} {Z : State → Prop} {G : mgT} {o L : Nat} {xs : Nat → Int32} (hl0 : l.stackTraces = false) (S : CallFix p m c cL_law 9 s args TT RL) (hG : GK G s s.heap) (hX : va_X o L xs s s.heap) (hbl : o < s.heap.size) (hbA : ¬ Ah G o) (hgh : gh G = s.heap.size) (hend : ∀ (pc : Nat) (H : Heap) (ls : Array Slot), decode cL_law pc = .ok (.ireturn, 1) → W p l e room_1 s m args below meth c H [] 603072 7223402 Z (F0 m pc ls [.int 1])) : ∀ (K28 : Option Nat → Option Nat → Option Nat → Option Nat → Int32 → Nat → mmT → Prop) (kK28 : ∀ (r1 : Option Nat) (r2 : Option Nat) (r3 : Option Nat) (r4 : Option Nat) (x5 : Int32) (t28 : Nat) (μ : mmT) (H : Heap) (locs : List Loc) (ls : Array Slot), Mm G μ H → va_S (Ah G) s.heap H locs → lv_has ls 9 [(0, .ref o), (1, va_rf r1), (2, va_rf r2), (3, va_rf r3), (4, va_rf r4), (5, .int x5)] → K28 r1 r2 r3 r4 x5 t28 μ → W p l e room_1 s m args below meth c H locs (652 + 2 * t28) (7573 + 12 * t28) Z (F0 m 28 ls [])) (r1 : Option Nat) (r2 : Option Nat) (r3 : Option Nat) (r4 : Option Nat) (x5 : Int32) (t28 : Nat) (μ : mmT) (H : Heap) (locs : List Loc) (ls : Array Slot), Mm G μ H → va_S (Ah G) s.heap H locs → lv_has ls 9 [(0, .ref o), (1, va_rf r1), (2, va_rf r2), (3, va_rf r3), (4, va_rf r4), (5, .int x5)] → w_L_law_b2337 G o L xs K28 r1 r2 r3 r4 x5 t28 μ → W p l e room_1 s m args below meth c H locs (652 + 2 * t28) (7573 + 12 * t28) Z (F0 m 2337 ls []) := by
  intro K28 kK28 r1 r2 r3 r4 x5 t28 μ H locs ls hM hS hl h
  unfold w_L_law_b2337 at h
  obtain ⟨ht28, h⟩ := h
  refine mz_aload_n (x := r1) S.1 S.2.1 dL_law_2337 rfl (lv_at hl 1 rfl) ?_
  obtain ⟨a733, e734, h⟩ := h
  refine mz_o0 e734 ?_
  obtain ⟨k735, h⟩ := h
  refine mz_V S hG hM hS cf_9 k735 (As := []) (rest := []) (c_X10_isConsistent h) yf_X10_isConsistent tw_430 tw_431 tw_432 ⟨Nat.le_of_ble_eq_true rfl, Nat.le_of_ble_eq_true rfl⟩ ⟨(by show (652 + 2 * t28) + 0 ≤ 603072; omega), (by show (7573 + 12 * t28) + 0 ≤ 7223402; omega)⟩ rfl hl.1 rfl (Nat.le_of_ble_eq_true rfl) dL_law_2338 (fun v9 μ9 H locs hp hM hS => ?_)
  obtain ⟨u736, rfl, e9, h⟩ := hp
  rw [e9] at hM
  refine W.cs (cells' := 652 + 2 * t28) (slots' := 7573 + 12 * t28) (by first | omega | (dsimp only; omega)) (by first | omega | (dsimp only; omega)) ?_
  refine mz_aload_n (x := r2) S.1 S.2.1 dL_law_2341 rfl (lv_at hl 2 rfl) ?_
  obtain ⟨a737, e738, h⟩ := h
  refine mz_o0 e738 ?_
  obtain ⟨k739, h⟩ := h
  refine mz_V S hG hM hS cf_10 k739 (As := []) (rest := [.int u736]) (c_X11_isConsistent h) yf_X11_isConsistent tw_1883 tw_1884 tw_1885 ⟨Nat.le_of_ble_eq_true rfl, Nat.le_of_ble_eq_true rfl⟩ ⟨(by show (652 + 2 * t28) + 0 ≤ 603072; omega), (by show (7573 + 12 * t28) + 0 ≤ 7223402; omega)⟩ rfl hl.1 rfl (Nat.le_of_ble_eq_true rfl) dL_law_2342 (fun v9 μ741 H locs hp hM hS => ?_)
  obtain ⟨u740, rfl, h⟩ := hp
  refine W.cs (cells' := 652 + 2 * t28) (slots' := 7573 + 12 * t28) (by first | omega | (dsimp only; omega)) (by first | omega | (dsimp only; omega)) ?_
  refine lv_icmp_eq (tgt := 2766) S.1 S.2.1 dL_law_2345 (by decide) (fun c742 => ?_) (fun c742 => ?_)
  · have h := h.1 c742
    refine W.widen (k := 654 + 2 * t28) (n := 7585 + 12 * t28) (by omega) (by omega) ?_
    exact cB_L_law_2766 hl0 S hG hX hbl hbA hgh hend K28 kK28 r1 r2 r3 r4 x5 t28 μ741 H locs ls hM hS (lv_sub hl [0, 1, 2, 3, 4, 5] rfl) h
  · have h := h.2 c742
    refine lv_iconst (v := (nI 0)) S.1 S.2.1 dL_law_2348 (by decide) ?_
    exact h.elim
set_option maxRecDepth 100000 in
set_option maxHeartbeats 4000000 in
theorem cB_L_law_2403 {p : Program} {l : Launch} {e : Env} {s : State} {m : MethodId} {args : Array Value} {below : List Frame} {meth : Method} {c : Code} {Z : State → Prop} {G : mgT} {o L : Nat} {xs : Nat → Int32} (hl0 : l.stackTraces = false) (S : CallFix p m c cL_law 9 s args TT RL) (hG : GK G s s.heap) (hX : va_X o L xs s s.heap) (hbl : o < s.heap.size) (hbA : ¬ Ah G o) (hgh : gh G = s.heap.size) (hend : ∀ (pc : Nat) (H : Heap) (ls : Array Slot), decode cL_law pc = .ok (.ireturn, 1) → W p l e room_1 s m args below meth c H [] 603072 7223402 Z (F0 m pc ls [.int 1])) : ∀ (K28 : Option Nat → Option Nat → Option Nat → Option Nat → Int32 → Nat → mmT → Prop) (kK28 : ∀ (r1 : Option Nat) (r2 : Option Nat) (r3 : Option Nat) (r4 : Option Nat) (x5 : Int32) (t28 : Nat) (μ : mmT) (H : Heap) (locs : List Loc) (ls : Array Slot), Mm G μ H → va_S (Ah G) s.heap H locs → lv_has ls 9 [(0, .ref o), (1, va_rf r1), (2, va_rf r2), (3, va_rf r3), (4, va_rf r4), (5, .int x5)] → K28 r1 r2 r3 r4 x5 t28 μ → W p l e room_1 s m args below meth c H locs (652 + 2 * t28) (7573 + 12 * t28) Z (F0 m 28 ls [])) (r1 : Option Nat) (r2 : Option Nat) (r3 : Option Nat) (r4 : Option Nat) (x5 : Int32) (t28 : Nat) (μ : mmT) (H : Heap) (locs : List Loc) (ls : Array Slot), Mm G μ H → va_S (Ah G) s.heap H locs → lv_has ls 9 [(0, .ref o), (1, va_rf r1), (2, va_rf r2), (3, va_rf r3), (4, va_rf r4), (5, .int x5)] → w_L_law_b2403 G o L xs K28 r1 r2 r3 r4 x5 t28 μ → W p l e room_1 s m args below meth c H locs (654 + 2 * t28) (7585 + 12 * t28) Z (F0 m 2403 ls []) := by
  intro K28 kK28 r1 r2 r3 r4 x5 t28 μ H locs ls hM hS hl h
  unfold w_L_law_b2403 at h
  obtain ⟨ht28, h⟩ := h
  refine lv_goto (tgt := 2766) S.1 S.2.1 dL_law_2403 (by decide) ?_
  refine W.widen (k := 654 + 2 * t28) (n := 7585 + 12 * t28) (by omega) (by omega) ?_
  exact cB_L_law_2766 hl0 S hG hX hbl hbA hgh hend K28 kK28 r1 r2 r3 r4 x5 t28 μ H locs ls hM hS (lv_sub hl [0, 1, 2, 3, 4, 5] rfl) h
set_option maxRecDepth 100000 in
set_option maxHeartbeats 4000000 in
theorem cB_L_law_2350 {p : Program} {l : Launch} {e : Env} {s : State} {m : MethodId} {args : Array Value} {below : List Frame} {meth : Method} {c : Code} {Z : State → Prop} {G : mgT} {o L : Nat} {xs : Nat → Int32} (hl0 : l.stackTraces = false) (S : CallFix p m c cL_law 9 s args TT RL) (hG : GK G s s.heap) (hX : va_X o L xs s s.heap) (hbl : o < s.heap.size) (hbA : ¬ Ah G o) (hgh : gh G = s.heap.size) (hend : ∀ (pc : Nat) (H : Heap) (ls : Array Slot), decode cL_law pc = .ok (.ireturn, 1) → W p l e room_1 s m args below meth c H [] 603072 7223402 Z (F0 m pc ls [.int 1])) : ∀ (K28 : Option Nat → Option Nat → Option Nat → Option Nat → Int32 → Nat → mmT → Prop) (kK28 : ∀ (r1 : Option Nat) (r2 : Option Nat) (r3 : Option Nat) (r4 : Option Nat) (x5 : Int32) (t28 : Nat) (μ : mmT) (H : Heap) (locs : List Loc) (ls : Array Slot), Mm G μ H → va_S (Ah G) s.heap H locs → lv_has ls 9 [(0, .ref o), (1, va_rf r1), (2, va_rf r2), (3, va_rf r3), (4, va_rf r4), (5, .int x5)] → K28 r1 r2 r3 r4 x5 t28 μ → W p l e room_1 s m args below meth c H locs (652 + 2 * t28) (7573 + 12 * t28) Z (F0 m 28 ls [])) (r1 : Option Nat) (r2 : Option Nat) (r3 : Option Nat) (r4 : Option Nat) (x5 : Int32) (t28 : Nat) (μ : mmT) (H : Heap) (locs : List Loc) (ls : Array Slot), Mm G μ H → va_S (Ah G) s.heap H locs → lv_has ls 9 [(0, .ref o), (1, va_rf r1), (2, va_rf r2), (3, va_rf r3), (4, va_rf r4), (5, .int x5)] → w_L_law_b2350 G o L xs K28 r1 r2 r3 r4 x5 t28 μ → W p l e room_1 s m args below meth c H locs (652 + 2 * t28) (7573 + 12 * t28) Z (F0 m 2350 ls []) := by
  intro K28 kK28 r1 r2 r3 r4 x5 t28 μ H locs ls hM hS hl h
  unfold w_L_law_b2350 at h
  obtain ⟨ht28, h⟩ := h
  refine mz_aload_n (x := r1) S.1 S.2.1 dL_law_2350 rfl (lv_at hl 1 rfl) ?_
  refine lv_aload_n S.1 S.2.1 dL_law_2351 rfl (lv_at hl 0 rfl) ?_
  refine lv_iload S.1 S.2.1 dL_law_2352 (lv_at hl 5 rfl) ?_
  refine lv_iconst (v := (nI 1)) S.1 S.2.1 dL_law_2354 (by decide) ?_
  refine lv_iadd S.1 S.2.1 dL_law_2355 ?_
  obtain ⟨b743, h⟩ := h
  refine va_sld S.1 S.2.1 hX hbl hbA hS b743 dL_law_2356 ?_
  refine mz_aload_n (x := r3) S.1 S.2.1 dL_law_2357 rfl (lv_at hl 3 rfl) ?_
  refine mz_SH S hG hM hS (As := [va_rf r1, .int (xs (x5 + (nI 1)).toNatClampNeg), va_rf r3]) (rest := []) (c_L_renderMessage hl0 h) yh_L_renderMessage tw_1330 tw_1331 ⟨Nat.le_of_ble_eq_true rfl, Nat.le_of_ble_eq_true rfl⟩ ⟨(by show (652 + 2 * t28) + 1 ≤ 603072; omega), (by show (7573 + 12 * t28) + 6 ≤ 7223402; omega)⟩ rfl hl.1 rfl (Nat.le_of_ble_eq_true rfl) dL_law_2358 (fun v9 μ745 H locs hp hM hS => ?_)
  obtain ⟨u744, rfl, h⟩ := hp
  refine W.cs (cells' := 653 + 2 * t28) (slots' := 7579 + 12 * t28) (by first | omega | (dsimp only; omega)) (by first | omega | (dsimp only; omega)) ?_
  refine lv_istore (lv' := [(6, .int u744), (0, .ref o), (1, va_rf r1), (2, va_rf r2), (3, va_rf r3), (4, va_rf r4), (5, .int x5)]) S.1 S.2.1 dL_law_2361 hl (by decide) rfl (fun ls hl => ?_)
  refine mz_aload_n (x := r2) S.1 S.2.1 dL_law_2363 rfl (lv_at hl 3 rfl) ?_
  refine lv_aload_n S.1 S.2.1 dL_law_2364 rfl (lv_at hl 1 rfl) ?_
  refine lv_iload S.1 S.2.1 dL_law_2365 (lv_at hl 6 rfl) ?_
  refine lv_iconst (v := (nI 1)) S.1 S.2.1 dL_law_2367 (by decide) ?_
  refine lv_iadd S.1 S.2.1 dL_law_2368 ?_
  obtain ⟨b746, h⟩ := h
  refine va_sld S.1 S.2.1 hX hbl hbA hS b746 dL_law_2369 ?_
  obtain ⟨a747, e748, h⟩ := h
  refine mz_o1 e748 ?_
  obtain ⟨k749, h⟩ := h
  refine mz_V S hG hM hS cf_10 k749 (As := [.int (xs (x5 + (nI 1)).toNatClampNeg)]) (rest := []) (c_X11_renderMessage h) yf_X11_renderMessage tw_1887 tw_1888 tw_1889 ⟨Nat.le_of_ble_eq_true rfl, Nat.le_of_ble_eq_true rfl⟩ ⟨(by show (653 + 2 * t28) + 0 ≤ 603072; omega), (by show (7579 + 12 * t28) + 0 ≤ 7223402; omega)⟩ rfl hl.1 rfl (Nat.le_of_ble_eq_true rfl) dL_law_2370 (fun v9 μ751 H locs hp hM hS => ?_)
  obtain ⟨u750, rfl, h⟩ := hp
  refine W.cs (cells' := 653 + 2 * t28) (slots' := 7579 + 12 * t28) (by first | omega | (dsimp only; omega)) (by first | omega | (dsimp only; omega)) ?_
  refine lv_istore (lv' := [(7, .int u750), (6, .int u744), (0, .ref o), (1, va_rf r1), (2, va_rf r2), (3, va_rf r3), (4, va_rf r4), (5, .int x5)]) S.1 S.2.1 dL_law_2373 hl (by decide) rfl (fun ls hl => ?_)
  refine mz_aload_n (x := r2) S.1 S.2.1 dL_law_2375 rfl (lv_at hl 4 rfl) ?_
  refine mz_o0 e748 ?_
  obtain ⟨k752, h⟩ := h
  refine mz_V S hG hM hS cf_10 k752 (As := []) (rest := []) (c_X11_thrown h) yf_X11_thrown tw_1543 tw_1544 tw_1545 ⟨Nat.le_of_ble_eq_true rfl, Nat.le_of_ble_eq_true rfl⟩ ⟨(by show (653 + 2 * t28) + 0 ≤ 603072; omega), (by show (7579 + 12 * t28) + 0 ≤ 7223402; omega)⟩ rfl hl.1 rfl (Nat.le_of_ble_eq_true rfl) dL_law_2376 (fun v9 μ9 H locs hp hM hS => ?_)
  obtain ⟨u753, rfl, e9, h⟩ := hp
  rw [e9] at hM
  refine W.cs (cells' := 653 + 2 * t28) (slots' := 7579 + 12 * t28) (by first | omega | (dsimp only; omega)) (by first | omega | (dsimp only; omega)) ?_
  refine lv_iload S.1 S.2.1 dL_law_2379 (lv_at hl 1 rfl) ?_
  refine lv_icmp_eq (tgt := 2386) S.1 S.2.1 dL_law_2381 (by decide) (fun c754 => ?_) (fun c754 => ?_)
  · have h := h.1 c754
    refine lv_iload S.1 S.2.1 dL_law_2386 (lv_at hl 1 rfl) ?_
    refine lv_if_ne (tgt := 2403) S.1 S.2.1 dL_law_2388 (by decide) (fun c755 => ?_) (fun c755 => ?_)
    · have h := h.1 c755
      refine W.widen (k := 654 + 2 * t28) (n := 7585 + 12 * t28) (by omega) (by omega) ?_
      exact cB_L_law_2403 hl0 S hG hX hbl hbA hgh hend K28 kK28 r1 r2 r3 r4 x5 t28 μ751 H locs ls hM hS (lv_sub hl [2, 3, 4, 5, 6, 7] rfl) h
    · have h := h.2 c755
      refine mz_aload_n (x := r3) S.1 S.2.1 dL_law_2391 rfl (lv_at hl 5 rfl) ?_
      refine lv_iconst (v := (nI 0)) S.1 S.2.1 dL_law_2392 (by decide) ?_
      obtain ⟨a756, e757, h⟩ := h
      refine mz_o1 e757 ?_
      obtain ⟨k758, h⟩ := h
      obtain ⟨b759, h⟩ := h
      refine mz_lald S hG hM dL_law_2393 k758 b759 ?_
      refine lv_iload S.1 S.2.1 dL_law_2394 (lv_at hl 0 rfl) ?_
      refine lv_i2l S.1 S.2.1 dL_law_2396 rfl ?_
      refine W.lcmp S.1 S.2.1 dL_law_2397 ?_
      refine lv_if_eq (tgt := 2403) S.1 S.2.1 dL_law_2398 (by decide) (fun c760 => ?_) (fun c760 => ?_)
      · have h := h.1 c760
        refine W.widen (k := 654 + 2 * t28) (n := 7585 + 12 * t28) (by omega) (by omega) ?_
        exact cB_L_law_2403 hl0 S hG hX hbl hbA hgh hend K28 kK28 r1 r2 r3 r4 x5 t28 μ751 H locs ls hM hS (lv_sub hl [2, 3, 4, 5, 6, 7] rfl) h
      · have h := h.2 c760
        refine lv_iconst (v := (nI 0)) S.1 S.2.1 dL_law_2401 (by decide) ?_
        exact h.elim
  · have h := h.2 c754
    refine lv_iconst (v := (nI 0)) S.1 S.2.1 dL_law_2384 (by decide) ?_
    exact h.elim
set_option maxRecDepth 100000 in
set_option maxHeartbeats 4000000 in
theorem cB_L_law_2406 {p : Program} {l : Launch} {e : Env} {s : State} {m : MethodId} {args : Array Value} {below : List Frame} {meth : Method} {c : Code} {Z : State → Prop} {G : mgT} {o L : Nat} {xs : Nat → Int32} (hl0 : l.stackTraces = false) (S : CallFix p m c cL_law 9 s args TT RL) (hG : GK G s s.heap) (hX : va_X o L xs s s.heap) (hbl : o < s.heap.size) (hbA : ¬ Ah G o) (hgh : gh G = s.heap.size) (hend : ∀ (pc : Nat) (H : Heap) (ls : Array Slot), decode cL_law pc = .ok (.ireturn, 1) → W p l e room_1 s m args below meth c H [] 603072 7223402 Z (F0 m pc ls [.int 1])) : ∀ (K28 : Option Nat → Option Nat → Option Nat → Option Nat → Int32 → Nat → mmT → Prop) (kK28 : ∀ (r1 : Option Nat) (r2 : Option Nat) (r3 : Option Nat) (r4 : Option Nat) (x5 : Int32) (t28 : Nat) (μ : mmT) (H : Heap) (locs : List Loc) (ls : Array Slot), Mm G μ H → va_S (Ah G) s.heap H locs → lv_has ls 9 [(0, .ref o), (1, va_rf r1), (2, va_rf r2), (3, va_rf r3), (4, va_rf r4), (5, .int x5)] → K28 r1 r2 r3 r4 x5 t28 μ → W p l e room_1 s m args below meth c H locs (652 + 2 * t28) (7573 + 12 * t28) Z (F0 m 28 ls [])) (r1 : Option Nat) (r2 : Option Nat) (r3 : Option Nat) (r4 : Option Nat) (x5 : Int32) (t28 : Nat) (μ : mmT) (H : Heap) (locs : List Loc) (ls : Array Slot), Mm G μ H → va_S (Ah G) s.heap H locs → lv_has ls 9 [(0, .ref o), (1, va_rf r1), (2, va_rf r2), (3, va_rf r3), (4, va_rf r4), (5, .int x5)] → w_L_law_b2406 G o L xs K28 r1 r2 r3 r4 x5 t28 μ → W p l e room_1 s m args below meth c H locs (652 + 2 * t28) (7573 + 12 * t28) Z (F0 m 2406 ls []) := by
  intro K28 kK28 r1 r2 r3 r4 x5 t28 μ H locs ls hM hS hl h
  unfold w_L_law_b2406 at h
  obtain ⟨ht28, h⟩ := h
  refine mz_aload_n (x := r1) S.1 S.2.1 dL_law_2406 rfl (lv_at hl 1 rfl) ?_
  obtain ⟨a761, e762, h⟩ := h
  refine mz_o0 e762 ?_
  obtain ⟨k763, h⟩ := h
  refine mz_V S hG hM hS cf_9 k763 (As := []) (rest := []) (c_X10_renderCrows h) yf_X10_renderCrows tw_455 tw_456 tw_457 ⟨Nat.le_of_ble_eq_true rfl, Nat.le_of_ble_eq_true rfl⟩ ⟨(by show (652 + 2 * t28) + 0 ≤ 603072; omega), (by show (7573 + 12 * t28) + 0 ≤ 7223402; omega)⟩ rfl hl.1 rfl (Nat.le_of_ble_eq_true rfl) dL_law_2407 (fun v9 μ765 H locs hp hM hS => ?_)
  obtain ⟨u764, rfl, h⟩ := hp
  refine W.cs (cells' := 652 + 2 * t28) (slots' := 7573 + 12 * t28) (by first | omega | (dsimp only; omega)) (by first | omega | (dsimp only; omega)) ?_
  refine mz_aload_n (x := r2) S.1 S.2.1 dL_law_2410 rfl (lv_at hl 2 rfl) ?_
  obtain ⟨a766, e767, h⟩ := h
  refine mz_o0 e767 ?_
  obtain ⟨k768, h⟩ := h
  refine mz_V S hG hM hS cf_10 k768 (As := []) (rest := [.int u764]) (c_X11_renderCrows h) yf_X11_renderCrows tw_1899 tw_1900 tw_1901 ⟨Nat.le_of_ble_eq_true rfl, Nat.le_of_ble_eq_true rfl⟩ ⟨(by show (652 + 2 * t28) + 0 ≤ 603072; omega), (by show (7573 + 12 * t28) + 0 ≤ 7223402; omega)⟩ rfl hl.1 rfl (Nat.le_of_ble_eq_true rfl) dL_law_2411 (fun v9 μ770 H locs hp hM hS => ?_)
  obtain ⟨u769, rfl, h⟩ := hp
  refine W.cs (cells' := 652 + 2 * t28) (slots' := 7573 + 12 * t28) (by first | omega | (dsimp only; omega)) (by first | omega | (dsimp only; omega)) ?_
  refine lv_icmp_eq (tgt := 2766) S.1 S.2.1 dL_law_2414 (by decide) (fun c771 => ?_) (fun c771 => ?_)
  · have h := h.1 c771
    refine W.widen (k := 654 + 2 * t28) (n := 7585 + 12 * t28) (by omega) (by omega) ?_
    exact cB_L_law_2766 hl0 S hG hX hbl hbA hgh hend K28 kK28 r1 r2 r3 r4 x5 t28 μ770 H locs ls hM hS (lv_sub hl [0, 1, 2, 3, 4, 5] rfl) h
  · have h := h.2 c771
    refine lv_iconst (v := (nI 0)) S.1 S.2.1 dL_law_2417 (by decide) ?_
    exact h.elim
set_option maxRecDepth 100000 in
set_option maxHeartbeats 4000000 in
theorem cB_L_law_2472 {p : Program} {l : Launch} {e : Env} {s : State} {m : MethodId} {args : Array Value} {below : List Frame} {meth : Method} {c : Code} {Z : State → Prop} {G : mgT} {o L : Nat} {xs : Nat → Int32} (hl0 : l.stackTraces = false) (S : CallFix p m c cL_law 9 s args TT RL) (hG : GK G s s.heap) (hX : va_X o L xs s s.heap) (hbl : o < s.heap.size) (hbA : ¬ Ah G o) (hgh : gh G = s.heap.size) (hend : ∀ (pc : Nat) (H : Heap) (ls : Array Slot), decode cL_law pc = .ok (.ireturn, 1) → W p l e room_1 s m args below meth c H [] 603072 7223402 Z (F0 m pc ls [.int 1])) : ∀ (K28 : Option Nat → Option Nat → Option Nat → Option Nat → Int32 → Nat → mmT → Prop) (kK28 : ∀ (r1 : Option Nat) (r2 : Option Nat) (r3 : Option Nat) (r4 : Option Nat) (x5 : Int32) (t28 : Nat) (μ : mmT) (H : Heap) (locs : List Loc) (ls : Array Slot), Mm G μ H → va_S (Ah G) s.heap H locs → lv_has ls 9 [(0, .ref o), (1, va_rf r1), (2, va_rf r2), (3, va_rf r3), (4, va_rf r4), (5, .int x5)] → K28 r1 r2 r3 r4 x5 t28 μ → W p l e room_1 s m args below meth c H locs (652 + 2 * t28) (7573 + 12 * t28) Z (F0 m 28 ls [])) (r1 : Option Nat) (r2 : Option Nat) (r3 : Option Nat) (r4 : Option Nat) (x5 : Int32) (t28 : Nat) (μ : mmT) (H : Heap) (locs : List Loc) (ls : Array Slot), Mm G μ H → va_S (Ah G) s.heap H locs → lv_has ls 9 [(0, .ref o), (1, va_rf r1), (2, va_rf r2), (3, va_rf r3), (4, va_rf r4), (5, .int x5)] → w_L_law_b2472 G o L xs K28 r1 r2 r3 r4 x5 t28 μ → W p l e room_1 s m args below meth c H locs (654 + 2 * t28) (7585 + 12 * t28) Z (F0 m 2472 ls []) := by
  intro K28 kK28 r1 r2 r3 r4 x5 t28 μ H locs ls hM hS hl h
  unfold w_L_law_b2472 at h
  obtain ⟨ht28, h⟩ := h
  refine lv_goto (tgt := 2766) S.1 S.2.1 dL_law_2472 (by decide) ?_
  refine W.widen (k := 654 + 2 * t28) (n := 7585 + 12 * t28) (by omega) (by omega) ?_
  exact cB_L_law_2766 hl0 S hG hX hbl hbA hgh hend K28 kK28 r1 r2 r3 r4 x5 t28 μ H locs ls hM hS (lv_sub hl [0, 1, 2, 3, 4, 5] rfl) h
set_option maxRecDepth 100000 in
set_option maxHeartbeats 4000000 in
theorem cB_L_law_2419 {p : Program} {l : Launch} {e : Env} {s : State} {m : MethodId} {args : Array Value} {below : List Frame} {meth : Method} {c : Code} {Z : State → Prop} {G : mgT} {o L : Nat} {xs : Nat → Int32} (hl0 : l.stackTraces = false) (S : CallFix p m c cL_law 9 s args TT RL) (hG : GK G s s.heap) (hX : va_X o L xs s s.heap) (hbl : o < s.heap.size) (hbA : ¬ Ah G o) (hgh : gh G = s.heap.size) (hend : ∀ (pc : Nat) (H : Heap) (ls : Array Slot), decode cL_law pc = .ok (.ireturn, 1) → W p l e room_1 s m args below meth c H [] 603072 7223402 Z (F0 m pc ls [.int 1])) : ∀ (K28 : Option Nat → Option Nat → Option Nat → Option Nat → Int32 → Nat → mmT → Prop) (kK28 : ∀ (r1 : Option Nat) (r2 : Option Nat) (r3 : Option Nat) (r4 : Option Nat) (x5 : Int32) (t28 : Nat) (μ : mmT) (H : Heap) (locs : List Loc) (ls : Array Slot), Mm G μ H → va_S (Ah G) s.heap H locs → lv_has ls 9 [(0, .ref o), (1, va_rf r1), (2, va_rf r2), (3, va_rf r3), (4, va_rf r4), (5, .int x5)] → K28 r1 r2 r3 r4 x5 t28 μ → W p l e room_1 s m args below meth c H locs (652 + 2 * t28) (7573 + 12 * t28) Z (F0 m 28 ls [])) (r1 : Option Nat) (r2 : Option Nat) (r3 : Option Nat) (r4 : Option Nat) (x5 : Int32) (t28 : Nat) (μ : mmT) (H : Heap) (locs : List Loc) (ls : Array Slot), Mm G μ H → va_S (Ah G) s.heap H locs → lv_has ls 9 [(0, .ref o), (1, va_rf r1), (2, va_rf r2), (3, va_rf r3), (4, va_rf r4), (5, .int x5)] → w_L_law_b2419 G o L xs K28 r1 r2 r3 r4 x5 t28 μ → W p l e room_1 s m args below meth c H locs (652 + 2 * t28) (7573 + 12 * t28) Z (F0 m 2419 ls []) := by
  intro K28 kK28 r1 r2 r3 r4 x5 t28 μ H locs ls hM hS hl h
  unfold w_L_law_b2419 at h
  obtain ⟨ht28, h⟩ := h
  refine mz_aload_n (x := r1) S.1 S.2.1 dL_law_2419 rfl (lv_at hl 1 rfl) ?_
  refine lv_aload_n S.1 S.2.1 dL_law_2420 rfl (lv_at hl 0 rfl) ?_
  refine lv_iload S.1 S.2.1 dL_law_2421 (lv_at hl 5 rfl) ?_
  refine lv_iconst (v := (nI 1)) S.1 S.2.1 dL_law_2423 (by decide) ?_
  refine lv_iadd S.1 S.2.1 dL_law_2424 ?_
  obtain ⟨b772, h⟩ := h
  refine va_sld S.1 S.2.1 hX hbl hbA hS b772 dL_law_2425 ?_
  refine mz_aload_n (x := r3) S.1 S.2.1 dL_law_2426 rfl (lv_at hl 3 rfl) ?_
  refine mz_SH S hG hM hS (As := [va_rf r1, .int (xs (x5 + (nI 1)).toNatClampNeg), va_rf r3]) (rest := []) (c_L_outputAt hl0 h) yh_L_outputAt tw_1337 tw_1338 ⟨Nat.le_of_ble_eq_true rfl, Nat.le_of_ble_eq_true rfl⟩ ⟨(by show (652 + 2 * t28) + 1 ≤ 603072; omega), (by show (7573 + 12 * t28) + 6 ≤ 7223402; omega)⟩ rfl hl.1 rfl (Nat.le_of_ble_eq_true rfl) dL_law_2427 (fun v9 μ774 H locs hp hM hS => ?_)
  obtain ⟨u773, rfl, h⟩ := hp
  refine W.cs (cells' := 653 + 2 * t28) (slots' := 7579 + 12 * t28) (by first | omega | (dsimp only; omega)) (by first | omega | (dsimp only; omega)) ?_
  refine lv_istore (lv' := [(6, .int u773), (0, .ref o), (1, va_rf r1), (2, va_rf r2), (3, va_rf r3), (4, va_rf r4), (5, .int x5)]) S.1 S.2.1 dL_law_2430 hl (by decide) rfl (fun ls hl => ?_)
  refine mz_aload_n (x := r2) S.1 S.2.1 dL_law_2432 rfl (lv_at hl 3 rfl) ?_
  refine lv_aload_n S.1 S.2.1 dL_law_2433 rfl (lv_at hl 1 rfl) ?_
  refine lv_iload S.1 S.2.1 dL_law_2434 (lv_at hl 6 rfl) ?_
  refine lv_iconst (v := (nI 1)) S.1 S.2.1 dL_law_2436 (by decide) ?_
  refine lv_iadd S.1 S.2.1 dL_law_2437 ?_
  obtain ⟨b775, h⟩ := h
  refine va_sld S.1 S.2.1 hX hbl hbA hS b775 dL_law_2438 ?_
  obtain ⟨a776, e777, h⟩ := h
  refine mz_o1 e777 ?_
  obtain ⟨k778, h⟩ := h
  refine mz_V S hG hM hS cf_10 k778 (As := [.int (xs (x5 + (nI 1)).toNatClampNeg)]) (rest := []) (c_X11_outputAt h) yf_X11_outputAt tw_1903 tw_1904 tw_1905 ⟨Nat.le_of_ble_eq_true rfl, Nat.le_of_ble_eq_true rfl⟩ ⟨(by show (653 + 2 * t28) + 0 ≤ 603072; omega), (by show (7579 + 12 * t28) + 0 ≤ 7223402; omega)⟩ rfl hl.1 rfl (Nat.le_of_ble_eq_true rfl) dL_law_2439 (fun v9 μ780 H locs hp hM hS => ?_)
  obtain ⟨u779, rfl, h⟩ := hp
  refine W.cs (cells' := 653 + 2 * t28) (slots' := 7579 + 12 * t28) (by first | omega | (dsimp only; omega)) (by first | omega | (dsimp only; omega)) ?_
  refine lv_istore (lv' := [(7, .int u779), (6, .int u773), (0, .ref o), (1, va_rf r1), (2, va_rf r2), (3, va_rf r3), (4, va_rf r4), (5, .int x5)]) S.1 S.2.1 dL_law_2442 hl (by decide) rfl (fun ls hl => ?_)
  refine mz_aload_n (x := r2) S.1 S.2.1 dL_law_2444 rfl (lv_at hl 4 rfl) ?_
  refine mz_o0 e777 ?_
  obtain ⟨k781, h⟩ := h
  refine mz_V S hG hM hS cf_10 k781 (As := []) (rest := []) (c_X11_thrown h) yf_X11_thrown tw_1543 tw_1544 tw_1545 ⟨Nat.le_of_ble_eq_true rfl, Nat.le_of_ble_eq_true rfl⟩ ⟨(by show (653 + 2 * t28) + 0 ≤ 603072; omega), (by show (7579 + 12 * t28) + 0 ≤ 7223402; omega)⟩ rfl hl.1 rfl (Nat.le_of_ble_eq_true rfl) dL_law_2445 (fun v9 μ9 H locs hp hM hS => ?_)
  obtain ⟨u782, rfl, e9, h⟩ := hp
  rw [e9] at hM
  refine W.cs (cells' := 653 + 2 * t28) (slots' := 7579 + 12 * t28) (by first | omega | (dsimp only; omega)) (by first | omega | (dsimp only; omega)) ?_
  refine lv_iload S.1 S.2.1 dL_law_2448 (lv_at hl 1 rfl) ?_
  refine lv_icmp_eq (tgt := 2455) S.1 S.2.1 dL_law_2450 (by decide) (fun c783 => ?_) (fun c783 => ?_)
  · have h := h.1 c783
    refine lv_iload S.1 S.2.1 dL_law_2455 (lv_at hl 1 rfl) ?_
    refine lv_if_ne (tgt := 2472) S.1 S.2.1 dL_law_2457 (by decide) (fun c784 => ?_) (fun c784 => ?_)
    · have h := h.1 c784
      refine W.widen (k := 654 + 2 * t28) (n := 7585 + 12 * t28) (by omega) (by omega) ?_
      exact cB_L_law_2472 hl0 S hG hX hbl hbA hgh hend K28 kK28 r1 r2 r3 r4 x5 t28 μ780 H locs ls hM hS (lv_sub hl [2, 3, 4, 5, 6, 7] rfl) h
    · have h := h.2 c784
      refine mz_aload_n (x := r3) S.1 S.2.1 dL_law_2460 rfl (lv_at hl 5 rfl) ?_
      refine lv_iconst (v := (nI 0)) S.1 S.2.1 dL_law_2461 (by decide) ?_
      obtain ⟨a785, e786, h⟩ := h
      refine mz_o1 e786 ?_
      obtain ⟨k787, h⟩ := h
      obtain ⟨b788, h⟩ := h
      refine mz_lald S hG hM dL_law_2462 k787 b788 ?_
      refine lv_iload S.1 S.2.1 dL_law_2463 (lv_at hl 0 rfl) ?_
      refine lv_i2l S.1 S.2.1 dL_law_2465 rfl ?_
      refine W.lcmp S.1 S.2.1 dL_law_2466 ?_
      refine lv_if_eq (tgt := 2472) S.1 S.2.1 dL_law_2467 (by decide) (fun c789 => ?_) (fun c789 => ?_)
      · have h := h.1 c789
        refine W.widen (k := 654 + 2 * t28) (n := 7585 + 12 * t28) (by omega) (by omega) ?_
        exact cB_L_law_2472 hl0 S hG hX hbl hbA hgh hend K28 kK28 r1 r2 r3 r4 x5 t28 μ780 H locs ls hM hS (lv_sub hl [2, 3, 4, 5, 6, 7] rfl) h
      · have h := h.2 c789
        refine lv_iconst (v := (nI 0)) S.1 S.2.1 dL_law_2470 (by decide) ?_
        exact h.elim
  · have h := h.2 c783
    refine lv_iconst (v := (nI 0)) S.1 S.2.1 dL_law_2453 (by decide) ?_
    exact h.elim
set_option maxRecDepth 100000 in
set_option maxHeartbeats 4000000 in
theorem cB_L_law_2530 {p : Program} {l : Launch} {e : Env} {s : State} {m : MethodId} {args : Array Value} {below : List Frame} {meth : Method} {c : Code} {Z : State → Prop} {G : mgT} {o L : Nat} {xs : Nat → Int32} (hl0 : l.stackTraces = false) (S : CallFix p m c cL_law 9 s args TT RL) (hG : GK G s s.heap) (hX : va_X o L xs s s.heap) (hbl : o < s.heap.size) (hbA : ¬ Ah G o) (hgh : gh G = s.heap.size) (hend : ∀ (pc : Nat) (H : Heap) (ls : Array Slot), decode cL_law pc = .ok (.ireturn, 1) → W p l e room_1 s m args below meth c H [] 603072 7223402 Z (F0 m pc ls [.int 1])) : ∀ (K28 : Option Nat → Option Nat → Option Nat → Option Nat → Int32 → Nat → mmT → Prop) (kK28 : ∀ (r1 : Option Nat) (r2 : Option Nat) (r3 : Option Nat) (r4 : Option Nat) (x5 : Int32) (t28 : Nat) (μ : mmT) (H : Heap) (locs : List Loc) (ls : Array Slot), Mm G μ H → va_S (Ah G) s.heap H locs → lv_has ls 9 [(0, .ref o), (1, va_rf r1), (2, va_rf r2), (3, va_rf r3), (4, va_rf r4), (5, .int x5)] → K28 r1 r2 r3 r4 x5 t28 μ → W p l e room_1 s m args below meth c H locs (652 + 2 * t28) (7573 + 12 * t28) Z (F0 m 28 ls [])) (r1 : Option Nat) (r2 : Option Nat) (r3 : Option Nat) (r4 : Option Nat) (x5 : Int32) (t28 : Nat) (μ : mmT) (H : Heap) (locs : List Loc) (ls : Array Slot), Mm G μ H → va_S (Ah G) s.heap H locs → lv_has ls 9 [(0, .ref o), (1, va_rf r1), (2, va_rf r2), (3, va_rf r3), (4, va_rf r4), (5, .int x5)] → w_L_law_b2530 G o L xs K28 r1 r2 r3 r4 x5 t28 μ → W p l e room_1 s m args below meth c H locs (654 + 2 * t28) (7585 + 12 * t28) Z (F0 m 2530 ls []) := by
  intro K28 kK28 r1 r2 r3 r4 x5 t28 μ H locs ls hM hS hl h
  unfold w_L_law_b2530 at h
  obtain ⟨ht28, h⟩ := h
  refine lv_goto (tgt := 2766) S.1 S.2.1 dL_law_2530 (by decide) ?_
  refine W.widen (k := 654 + 2 * t28) (n := 7585 + 12 * t28) (by omega) (by omega) ?_
  exact cB_L_law_2766 hl0 S hG hX hbl hbA hgh hend K28 kK28 r1 r2 r3 r4 x5 t28 μ H locs ls hM hS (lv_sub hl [0, 1, 2, 3, 4, 5] rfl) h
set_option maxRecDepth 100000 in
set_option maxHeartbeats 4000000 in
theorem cB_L_law_2475 {p : Program} {l : Launch} {e : Env} {s : State} {m : MethodId} {args : Array Value} {below : List Frame} {meth : Method} {c : Code} {Z : State → Prop} {G : mgT} {o L : Nat} {xs : Nat → Int32} (hl0 : l.stackTraces = false) (S : CallFix p m c cL_law 9 s args TT RL) (hG : GK G s s.heap) (hX : va_X o L xs s s.heap) (hbl : o < s.heap.size) (hbA : ¬ Ah G o) (hgh : gh G = s.heap.size) (hend : ∀ (pc : Nat) (H : Heap) (ls : Array Slot), decode cL_law pc = .ok (.ireturn, 1) → W p l e room_1 s m args below meth c H [] 603072 7223402 Z (F0 m pc ls [.int 1])) : ∀ (K28 : Option Nat → Option Nat → Option Nat → Option Nat → Int32 → Nat → mmT → Prop) (kK28 : ∀ (r1 : Option Nat) (r2 : Option Nat) (r3 : Option Nat) (r4 : Option Nat) (x5 : Int32) (t28 : Nat) (μ : mmT) (H : Heap) (locs : List Loc) (ls : Array Slot), Mm G μ H → va_S (Ah G) s.heap H locs → lv_has ls 9 [(0, .ref o), (1, va_rf r1), (2, va_rf r2), (3, va_rf r3), (4, va_rf r4), (5, .int x5)] → K28 r1 r2 r3 r4 x5 t28 μ → W p l e room_1 s m args below meth c H locs (652 + 2 * t28) (7573 + 12 * t28) Z (F0 m 28 ls [])) (r1 : Option Nat) (r2 : Option Nat) (r3 : Option Nat) (r4 : Option Nat) (x5 : Int32) (t28 : Nat) (μ : mmT) (H : Heap) (locs : List Loc) (ls : Array Slot), Mm G μ H → va_S (Ah G) s.heap H locs → lv_has ls 9 [(0, .ref o), (1, va_rf r1), (2, va_rf r2), (3, va_rf r3), (4, va_rf r4), (5, .int x5)] → w_L_law_b2475 G o L xs K28 r1 r2 r3 r4 x5 t28 μ → W p l e room_1 s m args below meth c H locs (652 + 2 * t28) (7573 + 12 * t28) Z (F0 m 2475 ls []) := by
  intro K28 kK28 r1 r2 r3 r4 x5 t28 μ H locs ls hM hS hl h
  unfold w_L_law_b2475 at h
  obtain ⟨ht28, h⟩ := h
  refine mz_aload_n (x := r1) S.1 S.2.1 dL_law_2475 rfl (lv_at hl 1 rfl) ?_
  refine lv_aload_n S.1 S.2.1 dL_law_2476 rfl (lv_at hl 0 rfl) ?_
  refine lv_iload S.1 S.2.1 dL_law_2477 (lv_at hl 5 rfl) ?_
  refine lv_iconst (v := (nI 1)) S.1 S.2.1 dL_law_2479 (by decide) ?_
  refine lv_iadd S.1 S.2.1 dL_law_2480 ?_
  obtain ⟨b790, h⟩ := h
  refine va_sld S.1 S.2.1 hX hbl hbA hS b790 dL_law_2481 ?_
  refine lv_i2c S.1 S.2.1 dL_law_2482 rfl ?_
  refine mz_aload_n (x := r3) S.1 S.2.1 dL_law_2483 rfl (lv_at hl 3 rfl) ?_
  refine mz_SH S hG hM hS (As := [va_rf r1, .int (((xs (x5 + (nI 1)).toNatClampNeg).toUInt32 % 65536).toInt32), va_rf r3]) (rest := []) (c_L_type hl0 h) yh_L_type tw_1355 tw_1356 ⟨Nat.le_of_ble_eq_true rfl, Nat.le_of_ble_eq_true rfl⟩ ⟨(by show (652 + 2 * t28) + 1 ≤ 603072; omega), (by show (7573 + 12 * t28) + 6 ≤ 7223402; omega)⟩ rfl hl.1 rfl (Nat.le_of_ble_eq_true rfl) dL_law_2484 (fun v9 μ792 H locs hp hM hS => ?_)
  obtain ⟨u791, rfl, h⟩ := hp
  refine W.cs (cells' := 653 + 2 * t28) (slots' := 7579 + 12 * t28) (by first | omega | (dsimp only; omega)) (by first | omega | (dsimp only; omega)) ?_
  refine lv_istore (lv' := [(6, .int u791), (0, .ref o), (1, va_rf r1), (2, va_rf r2), (3, va_rf r3), (4, va_rf r4), (5, .int x5)]) S.1 S.2.1 dL_law_2487 hl (by decide) rfl (fun ls hl => ?_)
  refine mz_aload_n (x := r2) S.1 S.2.1 dL_law_2489 rfl (lv_at hl 3 rfl) ?_
  refine lv_aload_n S.1 S.2.1 dL_law_2490 rfl (lv_at hl 1 rfl) ?_
  refine lv_iload S.1 S.2.1 dL_law_2491 (lv_at hl 6 rfl) ?_
  refine lv_iconst (v := (nI 1)) S.1 S.2.1 dL_law_2493 (by decide) ?_
  refine lv_iadd S.1 S.2.1 dL_law_2494 ?_
  obtain ⟨b793, h⟩ := h
  refine va_sld S.1 S.2.1 hX hbl hbA hS b793 dL_law_2495 ?_
  refine lv_i2c S.1 S.2.1 dL_law_2496 rfl ?_
  obtain ⟨a794, e795, h⟩ := h
  refine mz_o1 e795 ?_
  obtain ⟨k796, h⟩ := h
  refine mz_V S hG hM hS cf_10 k796 (As := [.int (((xs (x5 + (nI 1)).toNatClampNeg).toUInt32 % 65536).toInt32)]) (rest := []) (c_X11_type h) yf_X11_type tw_1907 tw_1908 tw_1909 ⟨Nat.le_of_ble_eq_true rfl, Nat.le_of_ble_eq_true rfl⟩ ⟨(by show (653 + 2 * t28) + 0 ≤ 603072; omega), (by show (7579 + 12 * t28) + 0 ≤ 7223402; omega)⟩ rfl hl.1 rfl (Nat.le_of_ble_eq_true rfl) dL_law_2497 (fun v9 μ798 H locs hp hM hS => ?_)
  obtain ⟨u797, rfl, h⟩ := hp
  refine W.cs (cells' := 653 + 2 * t28) (slots' := 7579 + 12 * t28) (by first | omega | (dsimp only; omega)) (by first | omega | (dsimp only; omega)) ?_
  refine lv_istore (lv' := [(7, .int u797), (6, .int u791), (0, .ref o), (1, va_rf r1), (2, va_rf r2), (3, va_rf r3), (4, va_rf r4), (5, .int x5)]) S.1 S.2.1 dL_law_2500 hl (by decide) rfl (fun ls hl => ?_)
  refine mz_aload_n (x := r2) S.1 S.2.1 dL_law_2502 rfl (lv_at hl 4 rfl) ?_
  refine mz_o0 e795 ?_
  obtain ⟨k799, h⟩ := h
  refine mz_V S hG hM hS cf_10 k799 (As := []) (rest := []) (c_X11_thrown h) yf_X11_thrown tw_1543 tw_1544 tw_1545 ⟨Nat.le_of_ble_eq_true rfl, Nat.le_of_ble_eq_true rfl⟩ ⟨(by show (653 + 2 * t28) + 0 ≤ 603072; omega), (by show (7579 + 12 * t28) + 0 ≤ 7223402; omega)⟩ rfl hl.1 rfl (Nat.le_of_ble_eq_true rfl) dL_law_2503 (fun v9 μ9 H locs hp hM hS => ?_)
  obtain ⟨u800, rfl, e9, h⟩ := hp
  rw [e9] at hM
  refine W.cs (cells' := 653 + 2 * t28) (slots' := 7579 + 12 * t28) (by first | omega | (dsimp only; omega)) (by first | omega | (dsimp only; omega)) ?_
  refine lv_iload S.1 S.2.1 dL_law_2506 (lv_at hl 1 rfl) ?_
  refine lv_icmp_eq (tgt := 2513) S.1 S.2.1 dL_law_2508 (by decide) (fun c801 => ?_) (fun c801 => ?_)
  · have h := h.1 c801
    refine lv_iload S.1 S.2.1 dL_law_2513 (lv_at hl 1 rfl) ?_
    refine lv_if_ne (tgt := 2530) S.1 S.2.1 dL_law_2515 (by decide) (fun c802 => ?_) (fun c802 => ?_)
    · have h := h.1 c802
      refine W.widen (k := 654 + 2 * t28) (n := 7585 + 12 * t28) (by omega) (by omega) ?_
      exact cB_L_law_2530 hl0 S hG hX hbl hbA hgh hend K28 kK28 r1 r2 r3 r4 x5 t28 μ798 H locs ls hM hS (lv_sub hl [2, 3, 4, 5, 6, 7] rfl) h
    · have h := h.2 c802
      refine mz_aload_n (x := r3) S.1 S.2.1 dL_law_2518 rfl (lv_at hl 5 rfl) ?_
      refine lv_iconst (v := (nI 0)) S.1 S.2.1 dL_law_2519 (by decide) ?_
      obtain ⟨a803, e804, h⟩ := h
      refine mz_o1 e804 ?_
      obtain ⟨k805, h⟩ := h
      obtain ⟨b806, h⟩ := h
      refine mz_lald S hG hM dL_law_2520 k805 b806 ?_
      refine lv_iload S.1 S.2.1 dL_law_2521 (lv_at hl 0 rfl) ?_
      refine lv_i2l S.1 S.2.1 dL_law_2523 rfl ?_
      refine W.lcmp S.1 S.2.1 dL_law_2524 ?_
      refine lv_if_eq (tgt := 2530) S.1 S.2.1 dL_law_2525 (by decide) (fun c807 => ?_) (fun c807 => ?_)
      · have h := h.1 c807
        refine W.widen (k := 654 + 2 * t28) (n := 7585 + 12 * t28) (by omega) (by omega) ?_
        exact cB_L_law_2530 hl0 S hG hX hbl hbA hgh hend K28 kK28 r1 r2 r3 r4 x5 t28 μ798 H locs ls hM hS (lv_sub hl [2, 3, 4, 5, 6, 7] rfl) h
      · have h := h.2 c807
        refine lv_iconst (v := (nI 0)) S.1 S.2.1 dL_law_2528 (by decide) ?_
        exact h.elim
  · have h := h.2 c801
    refine lv_iconst (v := (nI 0)) S.1 S.2.1 dL_law_2511 (by decide) ?_
    exact h.elim
set_option maxRecDepth 100000 in
set_option maxHeartbeats 4000000 in
theorem cB_L_law_2574 {p : Program} {l : Launch} {e : Env} {s : State} {m : MethodId} {args : Array Value} {below : List Frame} {meth : Method} {c : Code} {Z : State → Prop} {G : mgT} {o L : Nat} {xs : Nat → Int32} (hl0 : l.stackTraces = false) (S : CallFix p m c cL_law 9 s args TT RL) (hG : GK G s s.heap) (hX : va_X o L xs s s.heap) (hbl : o < s.heap.size) (hbA : ¬ Ah G o) (hgh : gh G = s.heap.size) (hend : ∀ (pc : Nat) (H : Heap) (ls : Array Slot), decode cL_law pc = .ok (.ireturn, 1) → W p l e room_1 s m args below meth c H [] 603072 7223402 Z (F0 m pc ls [.int 1])) : ∀ (K28 : Option Nat → Option Nat → Option Nat → Option Nat → Int32 → Nat → mmT → Prop) (kK28 : ∀ (r1 : Option Nat) (r2 : Option Nat) (r3 : Option Nat) (r4 : Option Nat) (x5 : Int32) (t28 : Nat) (μ : mmT) (H : Heap) (locs : List Loc) (ls : Array Slot), Mm G μ H → va_S (Ah G) s.heap H locs → lv_has ls 9 [(0, .ref o), (1, va_rf r1), (2, va_rf r2), (3, va_rf r3), (4, va_rf r4), (5, .int x5)] → K28 r1 r2 r3 r4 x5 t28 μ → W p l e room_1 s m args below meth c H locs (652 + 2 * t28) (7573 + 12 * t28) Z (F0 m 28 ls [])) (r1 : Option Nat) (r2 : Option Nat) (r3 : Option Nat) (r4 : Option Nat) (x5 : Int32) (t28 : Nat) (μ : mmT) (H : Heap) (locs : List Loc) (ls : Array Slot), Mm G μ H → va_S (Ah G) s.heap H locs → lv_has ls 9 [(0, .ref o), (1, va_rf r1), (2, va_rf r2), (3, va_rf r3), (4, va_rf r4), (5, .int x5)] → w_L_law_b2574 G o L xs K28 r1 r2 r3 r4 x5 t28 μ → W p l e room_1 s m args below meth c H locs (654 + 2 * t28) (7585 + 12 * t28) Z (F0 m 2574 ls []) := by
  intro K28 kK28 r1 r2 r3 r4 x5 t28 μ H locs ls hM hS hl h
  unfold w_L_law_b2574 at h
  obtain ⟨ht28, h⟩ := h
  refine lv_goto (tgt := 2766) S.1 S.2.1 dL_law_2574 (by decide) ?_
  refine W.widen (k := 654 + 2 * t28) (n := 7585 + 12 * t28) (by omega) (by omega) ?_
  exact cB_L_law_2766 hl0 S hG hX hbl hbA hgh hend K28 kK28 r1 r2 r3 r4 x5 t28 μ H locs ls hM hS (lv_sub hl [0, 1, 2, 3, 4, 5] rfl) h

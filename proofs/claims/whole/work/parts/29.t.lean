set_option maxRecDepth 100000 in
set_option maxHeartbeats 4000000 in
theorem cB_L_law_2533 {p : Program} {l : Launch} {e : Env} {s : State} {m : MethodId} {args : Array Value} {below : List Frame} {meth : Method} {c : Code} {Z : State → Prop} {G : mgT} {o L : Nat} {xs : Nat → Int32} (hl0 : l.stackTraces = false) (S : CallFix p m c cL_law 9 s args TT RL) (hG : GK G s s.heap) (hX : va_X o L xs s s.heap) (hbl : o < s.heap.size) (hbA : ¬ Ah G o) (hgh : gh G = s.heap.size) (hend : ∀ (pc : Nat) (H : Heap) (ls : Array Slot), decode cL_law pc = .ok (.ireturn, 1) → W p l e room_1 s m args below meth c H [] 603072 7223402 Z (F0 m pc ls [.int 1])) : ∀ (K28 : Option Nat → Option Nat → Option Nat → Option Nat → Int32 → Nat → mmT → Prop) (kK28 : ∀ (r1 : Option Nat) (r2 : Option Nat) (r3 : Option Nat) (r4 : Option Nat) (x5 : Int32) (t28 : Nat) (μ : mmT) (H : Heap) (locs : List Loc) (ls : Array Slot), Mm G μ H → va_S (Ah G) s.heap H locs → lv_has ls 9 [(0, .ref o), (1, va_rf r1), (2, va_rf r2), (3, va_rf r3), (4, va_rf r4), (5, .int x5)] → K28 r1 r2 r3 r4 x5 t28 μ → W p l e room_1 s m args below meth c H locs (652 + 2 * t28) (7573 + 12 * t28) Z (F0 m 28 ls [])) (r1 : Option Nat) (r2 : Option Nat) (r3 : Option Nat) (r4 : Option Nat) (x5 : Int32) (t28 : Nat) (μ : mmT) (H : Heap) (locs : List Loc) (ls : Array Slot), Mm G μ H → va_S (Ah G) s.heap H locs → lv_has ls 9 [(0, .ref o), (1, va_rf r1), (2, va_rf r2), (3, va_rf r3), (4, va_rf r4), (5, .int x5)] → w_L_law_b2533 G o L xs K28 r1 r2 r3 r4 x5 t28 μ → W p l e room_1 s m args below meth c H locs (652 + 2 * t28) (7573 + 12 * t28) Z (F0 m 2533 ls []) := by
  intro K28 kK28 r1 r2 r3 r4 x5 t28 μ H locs ls hM hS hl h
  unfold w_L_law_b2533 at h
  obtain ⟨ht28, h⟩ := h
  refine mz_aload_n (x := r1) S.1 S.2.1 dL_law_2533 rfl (lv_at hl 1 rfl) ?_
  refine mz_aload_n (x := r3) S.1 S.2.1 dL_law_2534 rfl (lv_at hl 3 rfl) ?_
  refine mz_SH S hG hM hS (As := [va_rf r1, va_rf r3]) (rest := []) (c_L_runScript hl0 h) yh_L_runScript tw_1368 tw_1369 ⟨Nat.le_of_ble_eq_true rfl, Nat.le_of_ble_eq_true rfl⟩ ⟨(by show (652 + 2 * t28) + 1 ≤ 603072; omega), (by show (7573 + 12 * t28) + 6 ≤ 7223402; omega)⟩ rfl hl.1 rfl (Nat.le_of_ble_eq_true rfl) dL_law_2535 (fun v9 μ809 H locs hp hM hS => ?_)
  obtain ⟨u808, rfl, h⟩ := hp
  refine W.cs (cells' := 653 + 2 * t28) (slots' := 7579 + 12 * t28) (by first | omega | (dsimp only; omega)) (by first | omega | (dsimp only; omega)) ?_
  refine lv_istore (lv' := [(6, .int u808), (0, .ref o), (1, va_rf r1), (2, va_rf r2), (3, va_rf r3), (4, va_rf r4), (5, .int x5)]) S.1 S.2.1 dL_law_2538 hl (by decide) rfl (fun ls hl => ?_)
  refine mz_aload_n (x := r2) S.1 S.2.1 dL_law_2540 rfl (lv_at hl 3 rfl) ?_
  obtain ⟨a810, e811, h⟩ := h
  refine mz_o0 e811 ?_
  obtain ⟨k812, h⟩ := h
  refine mz_V S hG hM hS cf_10 k812 (As := []) (rest := []) (c_X11_runScript h) yf_X11_runScript tw_1911 tw_1912 tw_1913 ⟨Nat.le_of_ble_eq_true rfl, Nat.le_of_ble_eq_true rfl⟩ ⟨(by show (653 + 2 * t28) + 0 ≤ 603072; omega), (by show (7579 + 12 * t28) + 0 ≤ 7223402; omega)⟩ rfl hl.1 rfl (Nat.le_of_ble_eq_true rfl) dL_law_2541 (fun v9 μ814 H locs hp hM hS => ?_)
  obtain ⟨u813, rfl, h⟩ := hp
  refine W.cs (cells' := 653 + 2 * t28) (slots' := 7579 + 12 * t28) (by first | omega | (dsimp only; omega)) (by first | omega | (dsimp only; omega)) ?_
  refine lv_istore (lv' := [(7, .int u813), (6, .int u808), (0, .ref o), (1, va_rf r1), (2, va_rf r2), (3, va_rf r3), (4, va_rf r4), (5, .int x5)]) S.1 S.2.1 dL_law_2544 hl (by decide) rfl (fun ls hl => ?_)
  refine mz_aload_n (x := r2) S.1 S.2.1 dL_law_2546 rfl (lv_at hl 4 rfl) ?_
  refine mz_o0 e811 ?_
  obtain ⟨k815, h⟩ := h
  refine mz_V S hG hM hS cf_10 k815 (As := []) (rest := []) (c_X11_thrown h) yf_X11_thrown tw_1543 tw_1544 tw_1545 ⟨Nat.le_of_ble_eq_true rfl, Nat.le_of_ble_eq_true rfl⟩ ⟨(by show (653 + 2 * t28) + 0 ≤ 603072; omega), (by show (7579 + 12 * t28) + 0 ≤ 7223402; omega)⟩ rfl hl.1 rfl (Nat.le_of_ble_eq_true rfl) dL_law_2547 (fun v9 μ9 H locs hp hM hS => ?_)
  obtain ⟨u816, rfl, e9, h⟩ := hp
  rw [e9] at hM
  refine W.cs (cells' := 653 + 2 * t28) (slots' := 7579 + 12 * t28) (by first | omega | (dsimp only; omega)) (by first | omega | (dsimp only; omega)) ?_
  refine lv_iload S.1 S.2.1 dL_law_2550 (lv_at hl 1 rfl) ?_
  refine lv_icmp_eq (tgt := 2557) S.1 S.2.1 dL_law_2552 (by decide) (fun c817 => ?_) (fun c817 => ?_)
  · have h := h.1 c817
    refine lv_iload S.1 S.2.1 dL_law_2557 (lv_at hl 1 rfl) ?_
    refine lv_if_ne (tgt := 2574) S.1 S.2.1 dL_law_2559 (by decide) (fun c818 => ?_) (fun c818 => ?_)
    · have h := h.1 c818
      refine W.widen (k := 654 + 2 * t28) (n := 7585 + 12 * t28) (by omega) (by omega) ?_
      exact cB_L_law_2574 hl0 S hG hX hbl hbA hgh hend K28 kK28 r1 r2 r3 r4 x5 t28 μ814 H locs ls hM hS (lv_sub hl [2, 3, 4, 5, 6, 7] rfl) h
    · have h := h.2 c818
      refine mz_aload_n (x := r3) S.1 S.2.1 dL_law_2562 rfl (lv_at hl 5 rfl) ?_
      refine lv_iconst (v := (nI 0)) S.1 S.2.1 dL_law_2563 (by decide) ?_
      obtain ⟨a819, e820, h⟩ := h
      refine mz_o1 e820 ?_
      obtain ⟨k821, h⟩ := h
      obtain ⟨b822, h⟩ := h
      refine mz_lald S hG hM dL_law_2564 k821 b822 ?_
      refine lv_iload S.1 S.2.1 dL_law_2565 (lv_at hl 0 rfl) ?_
      refine lv_i2l S.1 S.2.1 dL_law_2567 rfl ?_
      refine W.lcmp S.1 S.2.1 dL_law_2568 ?_
      refine lv_if_eq (tgt := 2574) S.1 S.2.1 dL_law_2569 (by decide) (fun c823 => ?_) (fun c823 => ?_)
      · have h := h.1 c823
        refine W.widen (k := 654 + 2 * t28) (n := 7585 + 12 * t28) (by omega) (by omega) ?_
        exact cB_L_law_2574 hl0 S hG hX hbl hbA hgh hend K28 kK28 r1 r2 r3 r4 x5 t28 μ814 H locs ls hM hS (lv_sub hl [2, 3, 4, 5, 6, 7] rfl) h
      · have h := h.2 c823
        refine lv_iconst (v := (nI 0)) S.1 S.2.1 dL_law_2572 (by decide) ?_
        exact h.elim
  · have h := h.2 c817
    refine lv_iconst (v := (nI 0)) S.1 S.2.1 dL_law_2555 (by decide) ?_
    exact h.elim
set_option maxRecDepth 100000 in
set_option maxHeartbeats 4000000 in
theorem cB_L_law_2618 {p : Program} {l : Launch} {e : Env} {s : State} {m : MethodId} {args : Array Value} {below : List Frame} {meth : Method} {c : Code} {Z : State → Prop} {G : mgT} {o L : Nat} {xs : Nat → Int32} (hl0 : l.stackTraces = false) (S : CallFix p m c cL_law 9 s args TT RL) (hG : GK G s s.heap) (hX : va_X o L xs s s.heap) (hbl : o < s.heap.size) (hbA : ¬ Ah G o) (hgh : gh G = s.heap.size) (hend : ∀ (pc : Nat) (H : Heap) (ls : Array Slot), decode cL_law pc = .ok (.ireturn, 1) → W p l e room_1 s m args below meth c H [] 603072 7223402 Z (F0 m pc ls [.int 1])) : ∀ (K28 : Option Nat → Option Nat → Option Nat → Option Nat → Int32 → Nat → mmT → Prop) (kK28 : ∀ (r1 : Option Nat) (r2 : Option Nat) (r3 : Option Nat) (r4 : Option Nat) (x5 : Int32) (t28 : Nat) (μ : mmT) (H : Heap) (locs : List Loc) (ls : Array Slot), Mm G μ H → va_S (Ah G) s.heap H locs → lv_has ls 9 [(0, .ref o), (1, va_rf r1), (2, va_rf r2), (3, va_rf r3), (4, va_rf r4), (5, .int x5)] → K28 r1 r2 r3 r4 x5 t28 μ → W p l e room_1 s m args below meth c H locs (652 + 2 * t28) (7573 + 12 * t28) Z (F0 m 28 ls [])) (r1 : Option Nat) (r2 : Option Nat) (r3 : Option Nat) (r4 : Option Nat) (x5 : Int32) (t28 : Nat) (μ : mmT) (H : Heap) (locs : List Loc) (ls : Array Slot), Mm G μ H → va_S (Ah G) s.heap H locs → lv_has ls 9 [(0, .ref o), (1, va_rf r1), (2, va_rf r2), (3, va_rf r3), (4, va_rf r4), (5, .int x5)] → w_L_law_b2618 G o L xs K28 r1 r2 r3 r4 x5 t28 μ → W p l e room_1 s m args below meth c H locs (654 + 2 * t28) (7585 + 12 * t28) Z (F0 m 2618 ls []) := by
  intro K28 kK28 r1 r2 r3 r4 x5 t28 μ H locs ls hM hS hl h
  unfold w_L_law_b2618 at h
  obtain ⟨ht28, h⟩ := h
  refine lv_goto (tgt := 2766) S.1 S.2.1 dL_law_2618 (by decide) ?_
  refine W.widen (k := 654 + 2 * t28) (n := 7585 + 12 * t28) (by omega) (by omega) ?_
  exact cB_L_law_2766 hl0 S hG hX hbl hbA hgh hend K28 kK28 r1 r2 r3 r4 x5 t28 μ H locs ls hM hS (lv_sub hl [0, 1, 2, 3, 4, 5] rfl) h
set_option maxRecDepth 100000 in
set_option maxHeartbeats 4000000 in
theorem cB_L_law_2577 {p : Program} {l : Launch} {e : Env} {s : State} {m : MethodId} {args : Array Value} {below : List Frame} {meth : Method} {c : Code} {Z : State → Prop} {G : mgT} {o L : Nat} {xs : Nat → Int32} (hl0 : l.stackTraces = false) (S : CallFix p m c cL_law 9 s args TT RL) (hG : GK G s s.heap) (hX : va_X o L xs s s.heap) (hbl : o < s.heap.size) (hbA : ¬ Ah G o) (hgh : gh G = s.heap.size) (hend : ∀ (pc : Nat) (H : Heap) (ls : Array Slot), decode cL_law pc = .ok (.ireturn, 1) → W p l e room_1 s m args below meth c H [] 603072 7223402 Z (F0 m pc ls [.int 1])) : ∀ (K28 : Option Nat → Option Nat → Option Nat → Option Nat → Int32 → Nat → mmT → Prop) (kK28 : ∀ (r1 : Option Nat) (r2 : Option Nat) (r3 : Option Nat) (r4 : Option Nat) (x5 : Int32) (t28 : Nat) (μ : mmT) (H : Heap) (locs : List Loc) (ls : Array Slot), Mm G μ H → va_S (Ah G) s.heap H locs → lv_has ls 9 [(0, .ref o), (1, va_rf r1), (2, va_rf r2), (3, va_rf r3), (4, va_rf r4), (5, .int x5)] → K28 r1 r2 r3 r4 x5 t28 μ → W p l e room_1 s m args below meth c H locs (652 + 2 * t28) (7573 + 12 * t28) Z (F0 m 28 ls [])) (r1 : Option Nat) (r2 : Option Nat) (r3 : Option Nat) (r4 : Option Nat) (x5 : Int32) (t28 : Nat) (μ : mmT) (H : Heap) (locs : List Loc) (ls : Array Slot), Mm G μ H → va_S (Ah G) s.heap H locs → lv_has ls 9 [(0, .ref o), (1, va_rf r1), (2, va_rf r2), (3, va_rf r3), (4, va_rf r4), (5, .int x5)] → w_L_law_b2577 G o L xs K28 r1 r2 r3 r4 x5 t28 μ → W p l e room_1 s m args below meth c H locs (652 + 2 * t28) (7573 + 12 * t28) Z (F0 m 2577 ls []) := by
  intro K28 kK28 r1 r2 r3 r4 x5 t28 μ H locs ls hM hS hl h
  unfold w_L_law_b2577 at h
  obtain ⟨ht28, h⟩ := h
  refine mz_aload_n (x := r1) S.1 S.2.1 dL_law_2577 rfl (lv_at hl 1 rfl) ?_
  refine mz_aload_n (x := r3) S.1 S.2.1 dL_law_2578 rfl (lv_at hl 3 rfl) ?_
  refine mz_SH S hG hM hS (As := [va_rf r1, va_rf r3]) (rest := []) (c_L_errorPosition hl0 h) yh_L_errorPosition tw_1440 tw_1441 ⟨Nat.le_of_ble_eq_true rfl, Nat.le_of_ble_eq_true rfl⟩ ⟨(by show (652 + 2 * t28) + 1 ≤ 603072; omega), (by show (7573 + 12 * t28) + 6 ≤ 7223402; omega)⟩ rfl hl.1 rfl (Nat.le_of_ble_eq_true rfl) dL_law_2579 (fun v9 μ825 H locs hp hM hS => ?_)
  obtain ⟨u824, rfl, h⟩ := hp
  refine W.cs (cells' := 653 + 2 * t28) (slots' := 7579 + 12 * t28) (by first | omega | (dsimp only; omega)) (by first | omega | (dsimp only; omega)) ?_
  refine lv_istore (lv' := [(6, .int u824), (0, .ref o), (1, va_rf r1), (2, va_rf r2), (3, va_rf r3), (4, va_rf r4), (5, .int x5)]) S.1 S.2.1 dL_law_2582 hl (by decide) rfl (fun ls hl => ?_)
  refine mz_aload_n (x := r2) S.1 S.2.1 dL_law_2584 rfl (lv_at hl 3 rfl) ?_
  obtain ⟨a826, e827, h⟩ := h
  refine mz_o0 e827 ?_
  obtain ⟨k828, h⟩ := h
  refine mz_V S hG hM hS cf_10 k828 (As := []) (rest := []) (c_X11_errorPosition h) yf_X11_errorPosition tw_1950 tw_1951 tw_1952 ⟨Nat.le_of_ble_eq_true rfl, Nat.le_of_ble_eq_true rfl⟩ ⟨(by show (653 + 2 * t28) + 0 ≤ 603072; omega), (by show (7579 + 12 * t28) + 0 ≤ 7223402; omega)⟩ rfl hl.1 rfl (Nat.le_of_ble_eq_true rfl) dL_law_2585 (fun v9 μ830 H locs hp hM hS => ?_)
  obtain ⟨u829, rfl, h⟩ := hp
  refine W.cs (cells' := 653 + 2 * t28) (slots' := 7579 + 12 * t28) (by first | omega | (dsimp only; omega)) (by first | omega | (dsimp only; omega)) ?_
  refine lv_istore (lv' := [(7, .int u829), (6, .int u824), (0, .ref o), (1, va_rf r1), (2, va_rf r2), (3, va_rf r3), (4, va_rf r4), (5, .int x5)]) S.1 S.2.1 dL_law_2588 hl (by decide) rfl (fun ls hl => ?_)
  refine mz_aload_n (x := r2) S.1 S.2.1 dL_law_2590 rfl (lv_at hl 4 rfl) ?_
  refine mz_o0 e827 ?_
  obtain ⟨k831, h⟩ := h
  refine mz_V S hG hM hS cf_10 k831 (As := []) (rest := []) (c_X11_thrown h) yf_X11_thrown tw_1543 tw_1544 tw_1545 ⟨Nat.le_of_ble_eq_true rfl, Nat.le_of_ble_eq_true rfl⟩ ⟨(by show (653 + 2 * t28) + 0 ≤ 603072; omega), (by show (7579 + 12 * t28) + 0 ≤ 7223402; omega)⟩ rfl hl.1 rfl (Nat.le_of_ble_eq_true rfl) dL_law_2591 (fun v9 μ9 H locs hp hM hS => ?_)
  obtain ⟨u832, rfl, e9, h⟩ := hp
  rw [e9] at hM
  refine W.cs (cells' := 653 + 2 * t28) (slots' := 7579 + 12 * t28) (by first | omega | (dsimp only; omega)) (by first | omega | (dsimp only; omega)) ?_
  refine lv_iload S.1 S.2.1 dL_law_2594 (lv_at hl 1 rfl) ?_
  refine lv_icmp_eq (tgt := 2601) S.1 S.2.1 dL_law_2596 (by decide) (fun c833 => ?_) (fun c833 => ?_)
  · have h := h.1 c833
    refine lv_iload S.1 S.2.1 dL_law_2601 (lv_at hl 1 rfl) ?_
    refine lv_if_ne (tgt := 2618) S.1 S.2.1 dL_law_2603 (by decide) (fun c834 => ?_) (fun c834 => ?_)
    · have h := h.1 c834
      refine W.widen (k := 654 + 2 * t28) (n := 7585 + 12 * t28) (by omega) (by omega) ?_
      exact cB_L_law_2618 hl0 S hG hX hbl hbA hgh hend K28 kK28 r1 r2 r3 r4 x5 t28 μ830 H locs ls hM hS (lv_sub hl [2, 3, 4, 5, 6, 7] rfl) h
    · have h := h.2 c834
      refine mz_aload_n (x := r3) S.1 S.2.1 dL_law_2606 rfl (lv_at hl 5 rfl) ?_
      refine lv_iconst (v := (nI 0)) S.1 S.2.1 dL_law_2607 (by decide) ?_
      obtain ⟨a835, e836, h⟩ := h
      refine mz_o1 e836 ?_
      obtain ⟨k837, h⟩ := h
      obtain ⟨b838, h⟩ := h
      refine mz_lald S hG hM dL_law_2608 k837 b838 ?_
      refine lv_iload S.1 S.2.1 dL_law_2609 (lv_at hl 0 rfl) ?_
      refine lv_i2l S.1 S.2.1 dL_law_2611 rfl ?_
      refine W.lcmp S.1 S.2.1 dL_law_2612 ?_
      refine lv_if_eq (tgt := 2618) S.1 S.2.1 dL_law_2613 (by decide) (fun c839 => ?_) (fun c839 => ?_)
      · have h := h.1 c839
        refine W.widen (k := 654 + 2 * t28) (n := 7585 + 12 * t28) (by omega) (by omega) ?_
        exact cB_L_law_2618 hl0 S hG hX hbl hbA hgh hend K28 kK28 r1 r2 r3 r4 x5 t28 μ830 H locs ls hM hS (lv_sub hl [2, 3, 4, 5, 6, 7] rfl) h
      · have h := h.2 c839
        refine lv_iconst (v := (nI 0)) S.1 S.2.1 dL_law_2616 (by decide) ?_
        exact h.elim
  · have h := h.2 c833
    refine lv_iconst (v := (nI 0)) S.1 S.2.1 dL_law_2599 (by decide) ?_
    exact h.elim
set_option maxRecDepth 100000 in
set_option maxHeartbeats 4000000 in
theorem cB_L_law_2662 {p : Program} {l : Launch} {e : Env} {s : State} {m : MethodId} {args : Array Value} {below : List Frame} {meth : Method} {c : Code} {Z : State → Prop} {G : mgT} {o L : Nat} {xs : Nat → Int32} (hl0 : l.stackTraces = false) (S : CallFix p m c cL_law 9 s args TT RL) (hG : GK G s s.heap) (hX : va_X o L xs s s.heap) (hbl : o < s.heap.size) (hbA : ¬ Ah G o) (hgh : gh G = s.heap.size) (hend : ∀ (pc : Nat) (H : Heap) (ls : Array Slot), decode cL_law pc = .ok (.ireturn, 1) → W p l e room_1 s m args below meth c H [] 603072 7223402 Z (F0 m pc ls [.int 1])) : ∀ (K28 : Option Nat → Option Nat → Option Nat → Option Nat → Int32 → Nat → mmT → Prop) (kK28 : ∀ (r1 : Option Nat) (r2 : Option Nat) (r3 : Option Nat) (r4 : Option Nat) (x5 : Int32) (t28 : Nat) (μ : mmT) (H : Heap) (locs : List Loc) (ls : Array Slot), Mm G μ H → va_S (Ah G) s.heap H locs → lv_has ls 9 [(0, .ref o), (1, va_rf r1), (2, va_rf r2), (3, va_rf r3), (4, va_rf r4), (5, .int x5)] → K28 r1 r2 r3 r4 x5 t28 μ → W p l e room_1 s m args below meth c H locs (652 + 2 * t28) (7573 + 12 * t28) Z (F0 m 28 ls [])) (r1 : Option Nat) (r2 : Option Nat) (r3 : Option Nat) (r4 : Option Nat) (x5 : Int32) (t28 : Nat) (μ : mmT) (H : Heap) (locs : List Loc) (ls : Array Slot), Mm G μ H → va_S (Ah G) s.heap H locs → lv_has ls 9 [(0, .ref o), (1, va_rf r1), (2, va_rf r2), (3, va_rf r3), (4, va_rf r4), (5, .int x5)] → w_L_law_b2662 G o L xs K28 r1 r2 r3 r4 x5 t28 μ → W p l e room_1 s m args below meth c H locs (654 + 2 * t28) (7585 + 12 * t28) Z (F0 m 2662 ls []) := by
  intro K28 kK28 r1 r2 r3 r4 x5 t28 μ H locs ls hM hS hl h
  unfold w_L_law_b2662 at h
  obtain ⟨ht28, h⟩ := h
  refine lv_goto (tgt := 2766) S.1 S.2.1 dL_law_2662 (by decide) ?_
  refine W.widen (k := 654 + 2 * t28) (n := 7585 + 12 * t28) (by omega) (by omega) ?_
  exact cB_L_law_2766 hl0 S hG hX hbl hbA hgh hend K28 kK28 r1 r2 r3 r4 x5 t28 μ H locs ls hM hS (lv_sub hl [0, 1, 2, 3, 4, 5] rfl) h
set_option maxRecDepth 100000 in
set_option maxHeartbeats 4000000 in
theorem cB_L_law_2621 {p : Program} {l : Launch} {e : Env} {s : State} {m : MethodId} {args : Array Value} {below : List Frame} {meth : Method} {c : Code} {Z : State → Prop} {G : mgT} {o L : Nat} {xs : Nat → Int32} (hl0 : l.stackTraces = false) (S : CallFix p m c cL_law 9 s args TT RL) (hG : GK G s s.heap) (hX : va_X o L xs s s.heap) (hbl : o < s.heap.size) (hbA : ¬ Ah G o) (hgh : gh G = s.heap.size) (hend : ∀ (pc : Nat) (H : Heap) (ls : Array Slot), decode cL_law pc = .ok (.ireturn, 1) → W p l e room_1 s m args below meth c H [] 603072 7223402 Z (F0 m pc ls [.int 1])) : ∀ (K28 : Option Nat → Option Nat → Option Nat → Option Nat → Int32 → Nat → mmT → Prop) (kK28 : ∀ (r1 : Option Nat) (r2 : Option Nat) (r3 : Option Nat) (r4 : Option Nat) (x5 : Int32) (t28 : Nat) (μ : mmT) (H : Heap) (locs : List Loc) (ls : Array Slot), Mm G μ H → va_S (Ah G) s.heap H locs → lv_has ls 9 [(0, .ref o), (1, va_rf r1), (2, va_rf r2), (3, va_rf r3), (4, va_rf r4), (5, .int x5)] → K28 r1 r2 r3 r4 x5 t28 μ → W p l e room_1 s m args below meth c H locs (652 + 2 * t28) (7573 + 12 * t28) Z (F0 m 28 ls [])) (r1 : Option Nat) (r2 : Option Nat) (r3 : Option Nat) (r4 : Option Nat) (x5 : Int32) (t28 : Nat) (μ : mmT) (H : Heap) (locs : List Loc) (ls : Array Slot), Mm G μ H → va_S (Ah G) s.heap H locs → lv_has ls 9 [(0, .ref o), (1, va_rf r1), (2, va_rf r2), (3, va_rf r3), (4, va_rf r4), (5, .int x5)] → w_L_law_b2621 G o L xs K28 r1 r2 r3 r4 x5 t28 μ → W p l e room_1 s m args below meth c H locs (652 + 2 * t28) (7573 + 12 * t28) Z (F0 m 2621 ls []) := by
  intro K28 kK28 r1 r2 r3 r4 x5 t28 μ H locs ls hM hS hl h
  unfold w_L_law_b2621 at h
  obtain ⟨ht28, h⟩ := h
  refine mz_aload_n (x := r1) S.1 S.2.1 dL_law_2621 rfl (lv_at hl 1 rfl) ?_
  refine mz_aload_n (x := r3) S.1 S.2.1 dL_law_2622 rfl (lv_at hl 3 rfl) ?_
  refine mz_SH S hG hM hS (As := [va_rf r1, va_rf r3]) (rest := []) (c_L_failedCommand hl0 h) yh_L_failedCommand tw_1448 tw_1449 ⟨Nat.le_of_ble_eq_true rfl, Nat.le_of_ble_eq_true rfl⟩ ⟨(by show (652 + 2 * t28) + 1 ≤ 603072; omega), (by show (7573 + 12 * t28) + 6 ≤ 7223402; omega)⟩ rfl hl.1 rfl (Nat.le_of_ble_eq_true rfl) dL_law_2623 (fun v9 μ841 H locs hp hM hS => ?_)
  obtain ⟨u840, rfl, h⟩ := hp
  refine W.cs (cells' := 653 + 2 * t28) (slots' := 7579 + 12 * t28) (by first | omega | (dsimp only; omega)) (by first | omega | (dsimp only; omega)) ?_
  refine lv_istore (lv' := [(6, .int u840), (0, .ref o), (1, va_rf r1), (2, va_rf r2), (3, va_rf r3), (4, va_rf r4), (5, .int x5)]) S.1 S.2.1 dL_law_2626 hl (by decide) rfl (fun ls hl => ?_)
  refine mz_aload_n (x := r2) S.1 S.2.1 dL_law_2628 rfl (lv_at hl 3 rfl) ?_
  obtain ⟨a842, e843, h⟩ := h
  refine mz_o0 e843 ?_
  obtain ⟨k844, h⟩ := h
  refine mz_V S hG hM hS cf_10 k844 (As := []) (rest := []) (c_X11_failedCommand h) yf_X11_failedCommand tw_1954 tw_1955 tw_1956 ⟨Nat.le_of_ble_eq_true rfl, Nat.le_of_ble_eq_true rfl⟩ ⟨(by show (653 + 2 * t28) + 0 ≤ 603072; omega), (by show (7579 + 12 * t28) + 0 ≤ 7223402; omega)⟩ rfl hl.1 rfl (Nat.le_of_ble_eq_true rfl) dL_law_2629 (fun v9 μ846 H locs hp hM hS => ?_)
  obtain ⟨u845, rfl, h⟩ := hp
  refine W.cs (cells' := 653 + 2 * t28) (slots' := 7579 + 12 * t28) (by first | omega | (dsimp only; omega)) (by first | omega | (dsimp only; omega)) ?_
  refine lv_istore (lv' := [(7, .int u845), (6, .int u840), (0, .ref o), (1, va_rf r1), (2, va_rf r2), (3, va_rf r3), (4, va_rf r4), (5, .int x5)]) S.1 S.2.1 dL_law_2632 hl (by decide) rfl (fun ls hl => ?_)
  refine mz_aload_n (x := r2) S.1 S.2.1 dL_law_2634 rfl (lv_at hl 4 rfl) ?_
  refine mz_o0 e843 ?_
  obtain ⟨k847, h⟩ := h
  refine mz_V S hG hM hS cf_10 k847 (As := []) (rest := []) (c_X11_thrown h) yf_X11_thrown tw_1543 tw_1544 tw_1545 ⟨Nat.le_of_ble_eq_true rfl, Nat.le_of_ble_eq_true rfl⟩ ⟨(by show (653 + 2 * t28) + 0 ≤ 603072; omega), (by show (7579 + 12 * t28) + 0 ≤ 7223402; omega)⟩ rfl hl.1 rfl (Nat.le_of_ble_eq_true rfl) dL_law_2635 (fun v9 μ9 H locs hp hM hS => ?_)
  obtain ⟨u848, rfl, e9, h⟩ := hp
  rw [e9] at hM
  refine W.cs (cells' := 653 + 2 * t28) (slots' := 7579 + 12 * t28) (by first | omega | (dsimp only; omega)) (by first | omega | (dsimp only; omega)) ?_
  refine lv_iload S.1 S.2.1 dL_law_2638 (lv_at hl 1 rfl) ?_
  refine lv_icmp_eq (tgt := 2645) S.1 S.2.1 dL_law_2640 (by decide) (fun c849 => ?_) (fun c849 => ?_)
  · have h := h.1 c849
    refine lv_iload S.1 S.2.1 dL_law_2645 (lv_at hl 1 rfl) ?_
    refine lv_if_ne (tgt := 2662) S.1 S.2.1 dL_law_2647 (by decide) (fun c850 => ?_) (fun c850 => ?_)
    · have h := h.1 c850
      refine W.widen (k := 654 + 2 * t28) (n := 7585 + 12 * t28) (by omega) (by omega) ?_
      exact cB_L_law_2662 hl0 S hG hX hbl hbA hgh hend K28 kK28 r1 r2 r3 r4 x5 t28 μ846 H locs ls hM hS (lv_sub hl [2, 3, 4, 5, 6, 7] rfl) h
    · have h := h.2 c850
      refine mz_aload_n (x := r3) S.1 S.2.1 dL_law_2650 rfl (lv_at hl 5 rfl) ?_
      refine lv_iconst (v := (nI 0)) S.1 S.2.1 dL_law_2651 (by decide) ?_
      obtain ⟨a851, e852, h⟩ := h
      refine mz_o1 e852 ?_
      obtain ⟨k853, h⟩ := h
      obtain ⟨b854, h⟩ := h
      refine mz_lald S hG hM dL_law_2652 k853 b854 ?_
      refine lv_iload S.1 S.2.1 dL_law_2653 (lv_at hl 0 rfl) ?_
      refine lv_i2l S.1 S.2.1 dL_law_2655 rfl ?_
      refine W.lcmp S.1 S.2.1 dL_law_2656 ?_
      refine lv_if_eq (tgt := 2662) S.1 S.2.1 dL_law_2657 (by decide) (fun c855 => ?_) (fun c855 => ?_)
      · have h := h.1 c855
        refine W.widen (k := 654 + 2 * t28) (n := 7585 + 12 * t28) (by omega) (by omega) ?_
        exact cB_L_law_2662 hl0 S hG hX hbl hbA hgh hend K28 kK28 r1 r2 r3 r4 x5 t28 μ846 H locs ls hM hS (lv_sub hl [2, 3, 4, 5, 6, 7] rfl) h
      · have h := h.2 c855
        refine lv_iconst (v := (nI 0)) S.1 S.2.1 dL_law_2660 (by decide) ?_
        exact h.elim
  · have h := h.2 c849
    refine lv_iconst (v := (nI 0)) S.1 S.2.1 dL_law_2643 (by decide) ?_
    exact h.elim
set_option maxRecDepth 100000 in
set_option maxHeartbeats 4000000 in
theorem cB_L_law_2706 {p : Program} {l : Launch} {e : Env} {s : State} {m : MethodId} {args : Array Value} {below : List Frame} {meth : Method} {c : Code} {Z : State → Prop} {G : mgT} {o L : Nat} {xs : Nat → Int32} (hl0 : l.stackTraces = false) (S : CallFix p m c cL_law 9 s args TT RL) (hG : GK G s s.heap) (hX : va_X o L xs s s.heap) (hbl : o < s.heap.size) (hbA : ¬ Ah G o) (hgh : gh G = s.heap.size) (hend : ∀ (pc : Nat) (H : Heap) (ls : Array Slot), decode cL_law pc = .ok (.ireturn, 1) → W p l e room_1 s m args below meth c H [] 603072 7223402 Z (F0 m pc ls [.int 1])) : ∀ (K28 : Option Nat → Option Nat → Option Nat → Option Nat → Int32 → Nat → mmT → Prop) (kK28 : ∀ (r1 : Option Nat) (r2 : Option Nat) (r3 : Option Nat) (r4 : Option Nat) (x5 : Int32) (t28 : Nat) (μ : mmT) (H : Heap) (locs : List Loc) (ls : Array Slot), Mm G μ H → va_S (Ah G) s.heap H locs → lv_has ls 9 [(0, .ref o), (1, va_rf r1), (2, va_rf r2), (3, va_rf r3), (4, va_rf r4), (5, .int x5)] → K28 r1 r2 r3 r4 x5 t28 μ → W p l e room_1 s m args below meth c H locs (652 + 2 * t28) (7573 + 12 * t28) Z (F0 m 28 ls [])) (r1 : Option Nat) (r2 : Option Nat) (r3 : Option Nat) (r4 : Option Nat) (x5 : Int32) (t28 : Nat) (μ : mmT) (H : Heap) (locs : List Loc) (ls : Array Slot), Mm G μ H → va_S (Ah G) s.heap H locs → lv_has ls 9 [(0, .ref o), (1, va_rf r1), (2, va_rf r2), (3, va_rf r3), (4, va_rf r4), (5, .int x5)] → w_L_law_b2706 G o L xs K28 r1 r2 r3 r4 x5 t28 μ → W p l e room_1 s m args below meth c H locs (654 + 2 * t28) (7585 + 12 * t28) Z (F0 m 2706 ls []) := by
  intro K28 kK28 r1 r2 r3 r4 x5 t28 μ H locs ls hM hS hl h
  unfold w_L_law_b2706 at h
  obtain ⟨ht28, h⟩ := h
  refine lv_goto (tgt := 2766) S.1 S.2.1 dL_law_2706 (by decide) ?_
  refine W.widen (k := 654 + 2 * t28) (n := 7585 + 12 * t28) (by omega) (by omega) ?_
  exact cB_L_law_2766 hl0 S hG hX hbl hbA hgh hend K28 kK28 r1 r2 r3 r4 x5 t28 μ H locs ls hM hS (lv_sub hl [0, 1, 2, 3, 4, 5] rfl) h
set_option maxRecDepth 100000 in
set_option maxHeartbeats 4000000 in
theorem cB_L_law_2665 {p : Program} {l : Launch} {e : Env} {s : State} {m : MethodId} {args : Array Value} {below : List Frame} {meth : Method} {c : Code} {Z : State → Prop} {G : mgT} {o L : Nat} {xs : Nat → Int32} (hl0 : l.stackTraces = false) (S : CallFix p m c cL_law 9 s args TT RL) (hG : GK G s s.heap) (hX : va_X o L xs s s.heap) (hbl : o < s.heap.size) (hbA : ¬ Ah G o) (hgh : gh G = s.heap.size) (hend : ∀ (pc : Nat) (H : Heap) (ls : Array Slot), decode cL_law pc = .ok (.ireturn, 1) → W p l e room_1 s m args below meth c H [] 603072 7223402 Z (F0 m pc ls [.int 1])) : ∀ (K28 : Option Nat → Option Nat → Option Nat → Option Nat → Int32 → Nat → mmT → Prop) (kK28 : ∀ (r1 : Option Nat) (r2 : Option Nat) (r3 : Option Nat) (r4 : Option Nat) (x5 : Int32) (t28 : Nat) (μ : mmT) (H : Heap) (locs : List Loc) (ls : Array Slot), Mm G μ H → va_S (Ah G) s.heap H locs → lv_has ls 9 [(0, .ref o), (1, va_rf r1), (2, va_rf r2), (3, va_rf r3), (4, va_rf r4), (5, .int x5)] → K28 r1 r2 r3 r4 x5 t28 μ → W p l e room_1 s m args below meth c H locs (652 + 2 * t28) (7573 + 12 * t28) Z (F0 m 28 ls [])) (r1 : Option Nat) (r2 : Option Nat) (r3 : Option Nat) (r4 : Option Nat) (x5 : Int32) (t28 : Nat) (μ : mmT) (H : Heap) (locs : List Loc) (ls : Array Slot), Mm G μ H → va_S (Ah G) s.heap H locs → lv_has ls 9 [(0, .ref o), (1, va_rf r1), (2, va_rf r2), (3, va_rf r3), (4, va_rf r4), (5, .int x5)] → w_L_law_b2665 G o L xs K28 r1 r2 r3 r4 x5 t28 μ → W p l e room_1 s m args below meth c H locs (652 + 2 * t28) (7573 + 12 * t28) Z (F0 m 2665 ls []) := by
  intro K28 kK28 r1 r2 r3 r4 x5 t28 μ H locs ls hM hS hl h
  unfold w_L_law_b2665 at h
  obtain ⟨ht28, h⟩ := h
  refine mz_aload_n (x := r1) S.1 S.2.1 dL_law_2665 rfl (lv_at hl 1 rfl) ?_
  refine mz_aload_n (x := r3) S.1 S.2.1 dL_law_2666 rfl (lv_at hl 3 rfl) ?_
  refine mz_SH S hG hM hS (As := [va_rf r1, va_rf r3]) (rest := []) (c_L_undo hl0 h) yh_L_undo tw_1456 tw_1457 ⟨Nat.le_of_ble_eq_true rfl, Nat.le_of_ble_eq_true rfl⟩ ⟨(by show (652 + 2 * t28) + 1 ≤ 603072; omega), (by show (7573 + 12 * t28) + 6 ≤ 7223402; omega)⟩ rfl hl.1 rfl (Nat.le_of_ble_eq_true rfl) dL_law_2667 (fun v9 μ857 H locs hp hM hS => ?_)
  obtain ⟨u856, rfl, h⟩ := hp
  refine W.cs (cells' := 653 + 2 * t28) (slots' := 7579 + 12 * t28) (by first | omega | (dsimp only; omega)) (by first | omega | (dsimp only; omega)) ?_
  refine lv_istore (lv' := [(6, .int u856), (0, .ref o), (1, va_rf r1), (2, va_rf r2), (3, va_rf r3), (4, va_rf r4), (5, .int x5)]) S.1 S.2.1 dL_law_2670 hl (by decide) rfl (fun ls hl => ?_)
  refine mz_aload_n (x := r2) S.1 S.2.1 dL_law_2672 rfl (lv_at hl 3 rfl) ?_
  obtain ⟨a858, e859, h⟩ := h
  refine mz_o0 e859 ?_
  obtain ⟨k860, h⟩ := h
  refine mz_V S hG hM hS cf_10 k860 (As := []) (rest := []) (c_X11_undo h) yf_X11_undo tw_1958 tw_1959 tw_1960 ⟨Nat.le_of_ble_eq_true rfl, Nat.le_of_ble_eq_true rfl⟩ ⟨(by show (653 + 2 * t28) + 0 ≤ 603072; omega), (by show (7579 + 12 * t28) + 0 ≤ 7223402; omega)⟩ rfl hl.1 rfl (Nat.le_of_ble_eq_true rfl) dL_law_2673 (fun v9 μ862 H locs hp hM hS => ?_)
  obtain ⟨u861, rfl, h⟩ := hp
  refine W.cs (cells' := 653 + 2 * t28) (slots' := 7579 + 12 * t28) (by first | omega | (dsimp only; omega)) (by first | omega | (dsimp only; omega)) ?_
  refine lv_istore (lv' := [(7, .int u861), (6, .int u856), (0, .ref o), (1, va_rf r1), (2, va_rf r2), (3, va_rf r3), (4, va_rf r4), (5, .int x5)]) S.1 S.2.1 dL_law_2676 hl (by decide) rfl (fun ls hl => ?_)
  refine mz_aload_n (x := r2) S.1 S.2.1 dL_law_2678 rfl (lv_at hl 4 rfl) ?_
  refine mz_o0 e859 ?_
  obtain ⟨k863, h⟩ := h
  refine mz_V S hG hM hS cf_10 k863 (As := []) (rest := []) (c_X11_thrown h) yf_X11_thrown tw_1543 tw_1544 tw_1545 ⟨Nat.le_of_ble_eq_true rfl, Nat.le_of_ble_eq_true rfl⟩ ⟨(by show (653 + 2 * t28) + 0 ≤ 603072; omega), (by show (7579 + 12 * t28) + 0 ≤ 7223402; omega)⟩ rfl hl.1 rfl (Nat.le_of_ble_eq_true rfl) dL_law_2679 (fun v9 μ9 H locs hp hM hS => ?_)
  obtain ⟨u864, rfl, e9, h⟩ := hp
  rw [e9] at hM
  refine W.cs (cells' := 653 + 2 * t28) (slots' := 7579 + 12 * t28) (by first | omega | (dsimp only; omega)) (by first | omega | (dsimp only; omega)) ?_
  refine lv_iload S.1 S.2.1 dL_law_2682 (lv_at hl 1 rfl) ?_
  refine lv_icmp_eq (tgt := 2689) S.1 S.2.1 dL_law_2684 (by decide) (fun c865 => ?_) (fun c865 => ?_)
  · have h := h.1 c865
    refine lv_iload S.1 S.2.1 dL_law_2689 (lv_at hl 1 rfl) ?_
    refine lv_if_ne (tgt := 2706) S.1 S.2.1 dL_law_2691 (by decide) (fun c866 => ?_) (fun c866 => ?_)
    · have h := h.1 c866
      refine W.widen (k := 654 + 2 * t28) (n := 7585 + 12 * t28) (by omega) (by omega) ?_
      exact cB_L_law_2706 hl0 S hG hX hbl hbA hgh hend K28 kK28 r1 r2 r3 r4 x5 t28 μ862 H locs ls hM hS (lv_sub hl [2, 3, 4, 5, 6, 7] rfl) h
    · have h := h.2 c866
      refine mz_aload_n (x := r3) S.1 S.2.1 dL_law_2694 rfl (lv_at hl 5 rfl) ?_
      refine lv_iconst (v := (nI 0)) S.1 S.2.1 dL_law_2695 (by decide) ?_
      obtain ⟨a867, e868, h⟩ := h
      refine mz_o1 e868 ?_
      obtain ⟨k869, h⟩ := h
      obtain ⟨b870, h⟩ := h
      refine mz_lald S hG hM dL_law_2696 k869 b870 ?_
      refine lv_iload S.1 S.2.1 dL_law_2697 (lv_at hl 0 rfl) ?_
      refine lv_i2l S.1 S.2.1 dL_law_2699 rfl ?_
      refine W.lcmp S.1 S.2.1 dL_law_2700 ?_
      refine lv_if_eq (tgt := 2706) S.1 S.2.1 dL_law_2701 (by decide) (fun c871 => ?_) (fun c871 => ?_)
      · have h := h.1 c871
        refine W.widen (k := 654 + 2 * t28) (n := 7585 + 12 * t28) (by omega) (by omega) ?_
        exact cB_L_law_2706 hl0 S hG hX hbl hbA hgh hend K28 kK28 r1 r2 r3 r4 x5 t28 μ862 H locs ls hM hS (lv_sub hl [2, 3, 4, 5, 6, 7] rfl) h
      · have h := h.2 c871
        refine lv_iconst (v := (nI 0)) S.1 S.2.1 dL_law_2704 (by decide) ?_
        exact h.elim
  · have h := h.2 c865
    refine lv_iconst (v := (nI 0)) S.1 S.2.1 dL_law_2687 (by decide) ?_
    exact h.elim
set_option maxRecDepth 100000 in
set_option maxHeartbeats 4000000 in
theorem cB_L_law_2709 {p : Program} {l : Launch} {e : Env} {s : State} {m : MethodId} {args : Array Value} {below : List Frame} {meth : Method} {c : Code} {Z : State → Prop} {G : mgT} {o L : Nat} {xs : Nat → Int32} (hl0 : l.stackTraces = false) (S : CallFix p m c cL_law 9 s args TT RL) (hG : GK G s s.heap) (hX : va_X o L xs s s.heap) (hbl : o < s.heap.size) (hbA : ¬ Ah G o) (hgh : gh G = s.heap.size) (hend : ∀ (pc : Nat) (H : Heap) (ls : Array Slot), decode cL_law pc = .ok (.ireturn, 1) → W p l e room_1 s m args below meth c H [] 603072 7223402 Z (F0 m pc ls [.int 1])) : ∀ (K28 : Option Nat → Option Nat → Option Nat → Option Nat → Int32 → Nat → mmT → Prop) (kK28 : ∀ (r1 : Option Nat) (r2 : Option Nat) (r3 : Option Nat) (r4 : Option Nat) (x5 : Int32) (t28 : Nat) (μ : mmT) (H : Heap) (locs : List Loc) (ls : Array Slot), Mm G μ H → va_S (Ah G) s.heap H locs → lv_has ls 9 [(0, .ref o), (1, va_rf r1), (2, va_rf r2), (3, va_rf r3), (4, va_rf r4), (5, .int x5)] → K28 r1 r2 r3 r4 x5 t28 μ → W p l e room_1 s m args below meth c H locs (652 + 2 * t28) (7573 + 12 * t28) Z (F0 m 28 ls [])) (r1 : Option Nat) (r2 : Option Nat) (r3 : Option Nat) (r4 : Option Nat) (x5 : Int32) (t28 : Nat) (μ : mmT) (H : Heap) (locs : List Loc) (ls : Array Slot), Mm G μ H → va_S (Ah G) s.heap H locs → lv_has ls 9 [(0, .ref o), (1, va_rf r1), (2, va_rf r2), (3, va_rf r3), (4, va_rf r4), (5, .int x5)] → w_L_law_b2709 G o L xs K28 r1 r2 r3 r4 x5 t28 μ → W p l e room_1 s m args below meth c H locs (652 + 2 * t28) (7573 + 12 * t28) Z (F0 m 2709 ls []) := by
  intro K28 kK28 r1 r2 r3 r4 x5 t28 μ H locs ls hM hS hl h
  unfold w_L_law_b2709 at h
  obtain ⟨ht28, h⟩ := h
  refine mz_aload_n (x := r1) S.1 S.2.1 dL_law_2709 rfl (lv_at hl 1 rfl) ?_
  obtain ⟨a872, e873, h⟩ := h
  refine mz_o0 e873 ?_
  obtain ⟨k874, h⟩ := h
  refine mz_V S hG hM hS cf_9 k874 (As := []) (rest := []) (c_X10_save h) yf_X10_save tw_829 tw_830 tw_831 ⟨Nat.le_of_ble_eq_true rfl, Nat.le_of_ble_eq_true rfl⟩ ⟨(by show (652 + 2 * t28) + 0 ≤ 603072; omega), (by show (7573 + 12 * t28) + 0 ≤ 7223402; omega)⟩ rfl hl.1 rfl (Nat.le_of_ble_eq_true rfl) dL_law_2710 (fun v9 μ876 H locs hp hM hS => ?_)
  obtain ⟨u875, rfl, h⟩ := hp
  refine W.cs (cells' := 652 + 2 * t28) (slots' := 7573 + 12 * t28) (by first | omega | (dsimp only; omega)) (by first | omega | (dsimp only; omega)) ?_
  refine mz_aload_n (x := r2) S.1 S.2.1 dL_law_2713 rfl (lv_at hl 2 rfl) ?_
  obtain ⟨a877, e878, h⟩ := h
  refine mz_o0 e878 ?_
  obtain ⟨k879, h⟩ := h
  refine mz_V S hG hM hS cf_10 k879 (As := []) (rest := [.int u875]) (c_X11_save h) yf_X11_save tw_1962 tw_1963 tw_1964 ⟨Nat.le_of_ble_eq_true rfl, Nat.le_of_ble_eq_true rfl⟩ ⟨(by show (652 + 2 * t28) + 0 ≤ 603072; omega), (by show (7573 + 12 * t28) + 0 ≤ 7223402; omega)⟩ rfl hl.1 rfl (Nat.le_of_ble_eq_true rfl) dL_law_2714 (fun v9 μ881 H locs hp hM hS => ?_)
  obtain ⟨u880, rfl, h⟩ := hp
  refine W.cs (cells' := 652 + 2 * t28) (slots' := 7573 + 12 * t28) (by first | omega | (dsimp only; omega)) (by first | omega | (dsimp only; omega)) ?_
  refine lv_icmp_eq (tgt := 2766) S.1 S.2.1 dL_law_2717 (by decide) (fun c882 => ?_) (fun c882 => ?_)
  · have h := h.1 c882
    refine W.widen (k := 654 + 2 * t28) (n := 7585 + 12 * t28) (by omega) (by omega) ?_
    exact cB_L_law_2766 hl0 S hG hX hbl hbA hgh hend K28 kK28 r1 r2 r3 r4 x5 t28 μ881 H locs ls hM hS (lv_sub hl [0, 1, 2, 3, 4, 5] rfl) h
  · have h := h.2 c882
    refine lv_iconst (v := (nI 0)) S.1 S.2.1 dL_law_2720 (by decide) ?_
    exact h.elim
set_option maxRecDepth 100000 in
set_option maxHeartbeats 4000000 in
theorem cB_L_law_2763 {p : Program} {l : Launch} {e : Env} {s : State} {m : MethodId} {args : Array Value} {below : List Frame} {meth : Method} {c : Code} {Z : State → Prop} {G : mgT} {o L : Nat} {xs : Nat → Int32} (hl0 : l.stackTraces = false) (S : CallFix p m c cL_law 9 s args TT RL) (hG : GK G s s.heap) (hX : va_X o L xs s s.heap) (hbl : o < s.heap.size) (hbA : ¬ Ah G o) (hgh : gh G = s.heap.size) (hend : ∀ (pc : Nat) (H : Heap) (ls : Array Slot), decode cL_law pc = .ok (.ireturn, 1) → W p l e room_1 s m args below meth c H [] 603072 7223402 Z (F0 m pc ls [.int 1])) : ∀ (K28 : Option Nat → Option Nat → Option Nat → Option Nat → Int32 → Nat → mmT → Prop) (kK28 : ∀ (r1 : Option Nat) (r2 : Option Nat) (r3 : Option Nat) (r4 : Option Nat) (x5 : Int32) (t28 : Nat) (μ : mmT) (H : Heap) (locs : List Loc) (ls : Array Slot), Mm G μ H → va_S (Ah G) s.heap H locs → lv_has ls 9 [(0, .ref o), (1, va_rf r1), (2, va_rf r2), (3, va_rf r3), (4, va_rf r4), (5, .int x5)] → K28 r1 r2 r3 r4 x5 t28 μ → W p l e room_1 s m args below meth c H locs (652 + 2 * t28) (7573 + 12 * t28) Z (F0 m 28 ls [])) (r1 : Option Nat) (r2 : Option Nat) (r3 : Option Nat) (r4 : Option Nat) (x5 : Int32) (t28 : Nat) (μ : mmT) (H : Heap) (locs : List Loc) (ls : Array Slot), Mm G μ H → va_S (Ah G) s.heap H locs → lv_has ls 9 [(0, .ref o), (1, va_rf r1), (2, va_rf r2), (3, va_rf r3), (4, va_rf r4), (5, .int x5)] → w_L_law_b2763 G o L xs K28 r1 r2 r3 r4 x5 t28 μ → W p l e room_1 s m args below meth c H locs (654 + 2 * t28) (7585 + 12 * t28) Z (F0 m 2763 ls []) := by
  intro K28 kK28 r1 r2 r3 r4 x5 t28 μ H locs ls hM hS hl h
  unfold w_L_law_b2763 at h
  obtain ⟨ht28, h⟩ := h
  refine lv_goto (tgt := 2766) S.1 S.2.1 dL_law_2763 (by decide) ?_
  refine W.widen (k := 654 + 2 * t28) (n := 7585 + 12 * t28) (by omega) (by omega) ?_
  exact cB_L_law_2766 hl0 S hG hX hbl hbA hgh hend K28 kK28 r1 r2 r3 r4 x5 t28 μ H locs ls hM hS (lv_sub hl [0, 1, 2, 3, 4, 5] rfl) h
set_option maxRecDepth 100000 in
set_option maxHeartbeats 4000000 in
theorem cB_L_law_2722 {p : Program} {l : Launch} {e : Env} {s : State} {m : MethodId} {args : Array Value} {below : List Frame} {meth : Method} {c : Code} {Z : State → Prop} {G : mgT} {o L : Nat} {xs : Nat → Int32} (hl0 : l.stackTraces = false) (S : CallFix p m c cL_law 9 s args TT RL) (hG : GK G s s.heap) (hX : va_X o L xs s s.heap) (hbl : o < s.heap.size) (hbA : ¬ Ah G o) (hgh : gh G = s.heap.size) (hend : ∀ (pc : Nat) (H : Heap) (ls : Array Slot), decode cL_law pc = .ok (.ireturn, 1) → W p l e room_1 s m args below meth c H [] 603072 7223402 Z (F0 m pc ls [.int 1])) : ∀ (K28 : Option Nat → Option Nat → Option Nat → Option Nat → Int32 → Nat → mmT → Prop) (kK28 : ∀ (r1 : Option Nat) (r2 : Option Nat) (r3 : Option Nat) (r4 : Option Nat) (x5 : Int32) (t28 : Nat) (μ : mmT) (H : Heap) (locs : List Loc) (ls : Array Slot), Mm G μ H → va_S (Ah G) s.heap H locs → lv_has ls 9 [(0, .ref o), (1, va_rf r1), (2, va_rf r2), (3, va_rf r3), (4, va_rf r4), (5, .int x5)] → K28 r1 r2 r3 r4 x5 t28 μ → W p l e room_1 s m args below meth c H locs (652 + 2 * t28) (7573 + 12 * t28) Z (F0 m 28 ls [])) (r1 : Option Nat) (r2 : Option Nat) (r3 : Option Nat) (r4 : Option Nat) (x5 : Int32) (t28 : Nat) (μ : mmT) (H : Heap) (locs : List Loc) (ls : Array Slot), Mm G μ H → va_S (Ah G) s.heap H locs → lv_has ls 9 [(0, .ref o), (1, va_rf r1), (2, va_rf r2), (3, va_rf r3), (4, va_rf r4), (5, .int x5)] → w_L_law_b2722 G o L xs K28 r1 r2 r3 r4 x5 t28 μ → W p l e room_1 s m args below meth c H locs (652 + 2 * t28) (7573 + 12 * t28) Z (F0 m 2722 ls []) := by
  intro K28 kK28 r1 r2 r3 r4 x5 t28 μ H locs ls hM hS hl h
  unfold w_L_law_b2722 at h
  obtain ⟨ht28, h⟩ := h
  refine mz_aload_n (x := r1) S.1 S.2.1 dL_law_2722 rfl (lv_at hl 1 rfl) ?_
  refine mz_aload_n (x := r3) S.1 S.2.1 dL_law_2723 rfl (lv_at hl 3 rfl) ?_
  refine mz_SH S hG hM hS (As := [va_rf r1, va_rf r3]) (rest := []) (c_L_restore hl0 h) yh_L_restore tw_1468 tw_1469 ⟨Nat.le_of_ble_eq_true rfl, Nat.le_of_ble_eq_true rfl⟩ ⟨(by show (652 + 2 * t28) + 1 ≤ 603072; omega), (by show (7573 + 12 * t28) + 6 ≤ 7223402; omega)⟩ rfl hl.1 rfl (Nat.le_of_ble_eq_true rfl) dL_law_2724 (fun v9 μ884 H locs hp hM hS => ?_)
  obtain ⟨u883, rfl, h⟩ := hp
  refine W.cs (cells' := 653 + 2 * t28) (slots' := 7579 + 12 * t28) (by first | omega | (dsimp only; omega)) (by first | omega | (dsimp only; omega)) ?_
  refine lv_istore (lv' := [(6, .int u883), (0, .ref o), (1, va_rf r1), (2, va_rf r2), (3, va_rf r3), (4, va_rf r4), (5, .int x5)]) S.1 S.2.1 dL_law_2727 hl (by decide) rfl (fun ls hl => ?_)
  refine mz_aload_n (x := r2) S.1 S.2.1 dL_law_2729 rfl (lv_at hl 3 rfl) ?_
  obtain ⟨a885, e886, h⟩ := h
  refine mz_o0 e886 ?_
  obtain ⟨k887, h⟩ := h
  refine mz_V S hG hM hS cf_10 k887 (As := []) (rest := []) (c_X11_restore h) yf_X11_restore tw_1966 tw_1967 tw_1968 ⟨Nat.le_of_ble_eq_true rfl, Nat.le_of_ble_eq_true rfl⟩ ⟨(by show (653 + 2 * t28) + 0 ≤ 603072; omega), (by show (7579 + 12 * t28) + 0 ≤ 7223402; omega)⟩ rfl hl.1 rfl (Nat.le_of_ble_eq_true rfl) dL_law_2730 (fun v9 μ889 H locs hp hM hS => ?_)
  obtain ⟨u888, rfl, h⟩ := hp
  refine W.cs (cells' := 653 + 2 * t28) (slots' := 7579 + 12 * t28) (by first | omega | (dsimp only; omega)) (by first | omega | (dsimp only; omega)) ?_
  refine lv_istore (lv' := [(7, .int u888), (6, .int u883), (0, .ref o), (1, va_rf r1), (2, va_rf r2), (3, va_rf r3), (4, va_rf r4), (5, .int x5)]) S.1 S.2.1 dL_law_2733 hl (by decide) rfl (fun ls hl => ?_)
  refine mz_aload_n (x := r2) S.1 S.2.1 dL_law_2735 rfl (lv_at hl 4 rfl) ?_
  refine mz_o0 e886 ?_
  obtain ⟨k890, h⟩ := h
  refine mz_V S hG hM hS cf_10 k890 (As := []) (rest := []) (c_X11_thrown h) yf_X11_thrown tw_1543 tw_1544 tw_1545 ⟨Nat.le_of_ble_eq_true rfl, Nat.le_of_ble_eq_true rfl⟩ ⟨(by show (653 + 2 * t28) + 0 ≤ 603072; omega), (by show (7579 + 12 * t28) + 0 ≤ 7223402; omega)⟩ rfl hl.1 rfl (Nat.le_of_ble_eq_true rfl) dL_law_2736 (fun v9 μ9 H locs hp hM hS => ?_)
  obtain ⟨u891, rfl, e9, h⟩ := hp
  rw [e9] at hM
  refine W.cs (cells' := 653 + 2 * t28) (slots' := 7579 + 12 * t28) (by first | omega | (dsimp only; omega)) (by first | omega | (dsimp only; omega)) ?_
  refine lv_iload S.1 S.2.1 dL_law_2739 (lv_at hl 1 rfl) ?_
  refine lv_icmp_eq (tgt := 2746) S.1 S.2.1 dL_law_2741 (by decide) (fun c892 => ?_) (fun c892 => ?_)
  · have h := h.1 c892
    refine lv_iload S.1 S.2.1 dL_law_2746 (lv_at hl 1 rfl) ?_
    refine lv_if_ne (tgt := 2763) S.1 S.2.1 dL_law_2748 (by decide) (fun c893 => ?_) (fun c893 => ?_)
    · have h := h.1 c893
      refine W.widen (k := 654 + 2 * t28) (n := 7585 + 12 * t28) (by omega) (by omega) ?_
      exact cB_L_law_2763 hl0 S hG hX hbl hbA hgh hend K28 kK28 r1 r2 r3 r4 x5 t28 μ889 H locs ls hM hS (lv_sub hl [2, 3, 4, 5, 6, 7] rfl) h
    · have h := h.2 c893
      refine mz_aload_n (x := r3) S.1 S.2.1 dL_law_2751 rfl (lv_at hl 5 rfl) ?_
      refine lv_iconst (v := (nI 0)) S.1 S.2.1 dL_law_2752 (by decide) ?_
      obtain ⟨a894, e895, h⟩ := h
      refine mz_o1 e895 ?_
      obtain ⟨k896, h⟩ := h
      obtain ⟨b897, h⟩ := h
      refine mz_lald S hG hM dL_law_2753 k896 b897 ?_
      refine lv_iload S.1 S.2.1 dL_law_2754 (lv_at hl 0 rfl) ?_
      refine lv_i2l S.1 S.2.1 dL_law_2756 rfl ?_
      refine W.lcmp S.1 S.2.1 dL_law_2757 ?_
      refine lv_if_eq (tgt := 2763) S.1 S.2.1 dL_law_2758 (by decide) (fun c898 => ?_) (fun c898 => ?_)
      · have h := h.1 c898
        refine W.widen (k := 654 + 2 * t28) (n := 7585 + 12 * t28) (by omega) (by omega) ?_
        exact cB_L_law_2763 hl0 S hG hX hbl hbA hgh hend K28 kK28 r1 r2 r3 r4 x5 t28 μ889 H locs ls hM hS (lv_sub hl [2, 3, 4, 5, 6, 7] rfl) h
      · have h := h.2 c898
        refine lv_iconst (v := (nI 0)) S.1 S.2.1 dL_law_2761 (by decide) ?_
        exact h.elim
  · have h := h.2 c892
    refine lv_iconst (v := (nI 0)) S.1 S.2.1 dL_law_2744 (by decide) ?_
    exact h.elim
set_option maxRecDepth 100000 in
set_option maxHeartbeats 4000000 in
theorem cB_L_law_28 {p : Program} {l : Launch} {e : Env} {s : State} {m : MethodId} {args : Array Value} {below : List Frame} {meth : Method} {c : Code} {Z : State → Prop} {G : mgT} {o L : Nat} {xs : Nat → Int32} (hl0 : l.stackTraces = false) (S : CallFix p m c cL_law 9 s args TT RL) (hG : GK G s s.heap) (hX : va_X o L xs s s.heap) (hbl : o < s.heap.size) (hbA : ¬ Ah G o) (hgh : gh G = s.heap.size) (hend : ∀ (pc : Nat) (H : Heap) (ls : Array Slot), decode cL_law pc = .ok (.ireturn, 1) → W p l e room_1 s m args below meth c H [] 603072 7223402 Z (F0 m pc ls [.int 1])) : ∀ (n : Nat) (r1 : Option Nat) (r2 : Option Nat) (r3 : Option Nat) (r4 : Option Nat) (x5 : Int32) (t28 : Nat) (μ : mmT) (H : Heap) (locs : List Loc) (ls : Array Slot), Mm G μ H → va_S (Ah G) s.heap H locs → lv_has ls 9 [(0, .ref o), (1, va_rf r1), (2, va_rf r2), (3, va_rf r3), (4, va_rf r4), (5, .int x5)] → w_L_law_l28 G o L xs  n r1 r2 r3 r4 x5 t28 μ → W p l e room_1 s m args below meth c H locs (652 + 2 * t28) (7573 + 12 * t28) Z (F0 m 28 ls []) := by
  intro  n
  induction n with
  | zero =>
    intro r1 r2 r3 r4 x5 t28 μ H locs ls hM hS hl h
    exact False.elim h
  | succ n ih =>
    intro r1 r2 r3 r4 x5 t28 μ H locs ls hM hS hl h
    have h : w_L_law_b28 G o L xs  (w_L_law_l28 G o L xs  n) r1 r2 r3 r4 x5 t28 μ := h
    unfold w_L_law_b28 at h
    obtain ⟨ht28, h⟩ := h
    refine lv_iload S.1 S.2.1 dL_law_28 (lv_at hl 5 rfl) ?_
    refine lv_aload_n S.1 S.2.1 dL_law_30 rfl (lv_at hl 0 rfl) ?_
    refine va_slen S.1 S.2.1 hX hbl hbA hS dL_law_31 ?_
    refine lv_iconst (v := (nI 3)) S.1 S.2.1 dL_law_32 (by decide) ?_
    refine lv_isub S.1 S.2.1 dL_law_33 ?_
    refine lv_icmp_gt (tgt := 2772) S.1 S.2.1 dL_law_34 (by decide) (fun c7 => ?_) (fun c7 => ?_)
    · have h := h.1 c7
      refine lv_iconst (v := (nI 1)) S.1 S.2.1 dL_law_2772 (by decide) ?_
      exact mz_lawret hgh hS hend (by show _ ≤ 603072; omega) (by show _ ≤ 7223402; omega) dL_law_2773
    · have h := h.2 c7
      refine lv_aload_n S.1 S.2.1 dL_law_37 rfl (lv_at hl 0 rfl) ?_
      refine lv_iload S.1 S.2.1 dL_law_38 (lv_at hl 5 rfl) ?_
      obtain ⟨b8, h⟩ := h
      refine va_sld S.1 S.2.1 hX hbl hbA hS b8 dL_law_40 ?_
      refine lv_bipush (v := (nI 63)) S.1 S.2.1 dL_law_41 (by decide) ?_
      refine lv_iand S.1 S.2.1 dL_law_43 ?_
      by_cases c9 : ∀ k ∈ ([0, 1, 2, 3, 4, 5, 6, 7, 8, 9, 10, 11, 12, 13, 14, 15, 16, 17, 18, 19, 20, 21, 22, 23, 24, 25, 26, 27, 28, 29, 30, 31, 32, 33, 34, 35, 36, 37, 38, 39, 40, 41, 42, 43, 44, 45, 46, 47, 48, 49, 50, 51, 52, 53, 54, 55] : List Nat), ¬ ((xs x5.toNatClampNeg) &&& (nI 63)) = nI k
      · have h := h.1 c9
        refine mz_table (tgt := 2766) S.1 S.2.1 dL_law_44 (by decide) (by rw [mz_dflt [0, 1, 2, 3, 4, 5, 6, 7, 8, 9, 10, 11, 12, 13, 14, 15, 16, 17, 18, 19, 20, 21, 22, 23, 24, 25, 26, 27, 28, 29, 30, 31, 32, 33, 34, 35, 36, 37, 38, 39, 40, 41, 42, 43, 44, 45, 46, 47, 48, 49, 50, 51, 52, 53, 54, 55] 56 (by decide +kernel) (by decide +kernel) (by decide +kernel) (by decide +kernel) c9]; rfl) ?_
        refine W.widen (k := 654 + 2 * t28) (n := 7585 + 12 * t28) (by omega) (by omega) ?_
        exact cB_L_law_2766 hl0 S hG hX hbl hbA hgh hend (w_L_law_l28 G o L xs  n) ih r1 r2 r3 r4 x5 t28 μ H locs ls hM hS (lv_sub hl [0, 1, 2, 3, 4, 5] rfl) h
      · have h := h.2
        by_cases c10 : ((xs x5.toNatClampNeg) &&& (nI 63)) = nI 0
        · have h := h.1 c10
          refine mz_table (tgt := 284) S.1 S.2.1 dL_law_44 (by decide) (by rw [c10]; decide +kernel) ?_
          refine W.widen (k := 652 + 2 * t28) (n := 7573 + 12 * t28) (by omega) (by omega) ?_
          exact cB_L_law_284 hl0 S hG hX hbl hbA hgh hend (w_L_law_l28 G o L xs  n) ih r1 r2 r3 r4 x5 t28 μ H locs ls hM hS (lv_sub hl [0, 1, 2, 3, 4, 5] rfl) h
        have h := h.2
        by_cases c11 : ((xs x5.toNatClampNeg) &&& (nI 63)) = nI 1
        · have h := h.1 c11
          refine mz_table (tgt := 352) S.1 S.2.1 dL_law_44 (by decide) (by rw [c11]; decide +kernel) ?_
          refine W.widen (k := 652 + 2 * t28) (n := 7573 + 12 * t28) (by omega) (by omega) ?_
          exact cB_L_law_352 hl0 S hG hX hbl hbA hgh hend (w_L_law_l28 G o L xs  n) ih r1 r2 r3 r4 x5 t28 μ H locs ls hM hS (lv_sub hl [0, 1, 2, 3, 4, 5] rfl) h
        have h := h.2
        by_cases c12 : ((xs x5.toNatClampNeg) &&& (nI 63)) = nI 2
        · have h := h.1 c12
          refine mz_table (tgt := 396) S.1 S.2.1 dL_law_44 (by decide) (by rw [c12]; decide +kernel) ?_
          refine W.widen (k := 652 + 2 * t28) (n := 7573 + 12 * t28) (by omega) (by omega) ?_
          exact cB_L_law_396 hl0 S hG hX hbl hbA hgh hend (w_L_law_l28 G o L xs  n) ih r1 r2 r3 r4 x5 t28 μ H locs ls hM hS (lv_sub hl [0, 1, 2, 3, 4, 5] rfl) h
        have h := h.2
        by_cases c13 : ((xs x5.toNatClampNeg) &&& (nI 63)) = nI 3
        · have h := h.1 c13
          refine mz_table (tgt := 464) S.1 S.2.1 dL_law_44 (by decide) (by rw [c13]; decide +kernel) ?_
          refine W.widen (k := 652 + 2 * t28) (n := 7573 + 12 * t28) (by omega) (by omega) ?_
          exact cB_L_law_464 hl0 S hG hX hbl hbA hgh hend (w_L_law_l28 G o L xs  n) ih r1 r2 r3 r4 x5 t28 μ H locs ls hM hS (lv_sub hl [0, 1, 2, 3, 4, 5] rfl) h
        have h := h.2
        by_cases c14 : ((xs x5.toNatClampNeg) &&& (nI 63)) = nI 4
        · have h := h.1 c14
          refine mz_table (tgt := 520) S.1 S.2.1 dL_law_44 (by decide) (by rw [c14]; decide +kernel) ?_
          refine W.widen (k := 652 + 2 * t28) (n := 7573 + 12 * t28) (by omega) (by omega) ?_
          exact cB_L_law_520 hl0 S hG hX hbl hbA hgh hend (w_L_law_l28 G o L xs  n) ih r1 r2 r3 r4 x5 t28 μ H locs ls hM hS (lv_sub hl [0, 1, 2, 3, 4, 5] rfl) h
        have h := h.2
        by_cases c15 : ((xs x5.toNatClampNeg) &&& (nI 63)) = nI 5
        · have h := h.1 c15
          refine mz_table (tgt := 576) S.1 S.2.1 dL_law_44 (by decide) (by rw [c15]; decide +kernel) ?_
          refine W.widen (k := 652 + 2 * t28) (n := 7573 + 12 * t28) (by omega) (by omega) ?_
          exact cB_L_law_576 hl0 S hG hX hbl hbA hgh hend (w_L_law_l28 G o L xs  n) ih r1 r2 r3 r4 x5 t28 μ H locs ls hM hS (lv_sub hl [0, 1, 2, 3, 4, 5] rfl) h
        have h := h.2
        by_cases c16 : ((xs x5.toNatClampNeg) &&& (nI 63)) = nI 6
        · have h := h.1 c16
          refine mz_table (tgt := 632) S.1 S.2.1 dL_law_44 (by decide) (by rw [c16]; decide +kernel) ?_
          refine W.widen (k := 652 + 2 * t28) (n := 7573 + 12 * t28) (by omega) (by omega) ?_
          exact cB_L_law_632 hl0 S hG hX hbl hbA hgh hend (w_L_law_l28 G o L xs  n) ih r1 r2 r3 r4 x5 t28 μ H locs ls hM hS (lv_sub hl [0, 1, 2, 3, 4, 5] rfl) h
        have h := h.2
        by_cases c17 : ((xs x5.toNatClampNeg) &&& (nI 63)) = nI 7
        · have h := h.1 c17
          refine mz_table (tgt := 688) S.1 S.2.1 dL_law_44 (by decide) (by rw [c17]; decide +kernel) ?_
          refine W.widen (k := 652 + 2 * t28) (n := 7573 + 12 * t28) (by omega) (by omega) ?_
          exact cB_L_law_688 hl0 S hG hX hbl hbA hgh hend (w_L_law_l28 G o L xs  n) ih r1 r2 r3 r4 x5 t28 μ H locs ls hM hS (lv_sub hl [0, 1, 2, 3, 4, 5] rfl) h
        have h := h.2
        by_cases c18 : ((xs x5.toNatClampNeg) &&& (nI 63)) = nI 8
        · have h := h.1 c18
          refine mz_table (tgt := 744) S.1 S.2.1 dL_law_44 (by decide) (by rw [c18]; decide +kernel) ?_
          refine W.widen (k := 652 + 2 * t28) (n := 7573 + 12 * t28) (by omega) (by omega) ?_
          exact cB_L_law_744 hl0 S hG hX hbl hbA hgh hend (w_L_law_l28 G o L xs  n) ih r1 r2 r3 r4 x5 t28 μ H locs ls hM hS (lv_sub hl [0, 1, 2, 3, 4, 5] rfl) h
        have h := h.2
        by_cases c19 : ((xs x5.toNatClampNeg) &&& (nI 63)) = nI 9
        · have h := h.1 c19
          refine mz_table (tgt := 757) S.1 S.2.1 dL_law_44 (by decide) (by rw [c19]; decide +kernel) ?_
          refine W.widen (k := 652 + 2 * t28) (n := 7573 + 12 * t28) (by omega) (by omega) ?_
          exact cB_L_law_757 hl0 S hG hX hbl hbA hgh hend (w_L_law_l28 G o L xs  n) ih r1 r2 r3 r4 x5 t28 μ H locs ls hM hS (lv_sub hl [0, 1, 2, 3, 4, 5] rfl) h
        have h := h.2
        by_cases c20 : ((xs x5.toNatClampNeg) &&& (nI 63)) = nI 10
        · have h := h.1 c20
          refine mz_table (tgt := 813) S.1 S.2.1 dL_law_44 (by decide) (by rw [c20]; decide +kernel) ?_
          refine W.widen (k := 652 + 2 * t28) (n := 7573 + 12 * t28) (by omega) (by omega) ?_
          exact cB_L_law_813 hl0 S hG hX hbl hbA hgh hend (w_L_law_l28 G o L xs  n) ih r1 r2 r3 r4 x5 t28 μ H locs ls hM hS (lv_sub hl [0, 1, 2, 3, 4, 5] rfl) h
        have h := h.2
        by_cases c21 : ((xs x5.toNatClampNeg) &&& (nI 63)) = nI 11
        · have h := h.1 c21
          refine mz_table (tgt := 869) S.1 S.2.1 dL_law_44 (by decide) (by rw [c21]; decide +kernel) ?_
          refine W.widen (k := 652 + 2 * t28) (n := 7573 + 12 * t28) (by omega) (by omega) ?_
          exact cB_L_law_869 hl0 S hG hX hbl hbA hgh hend (w_L_law_l28 G o L xs  n) ih r1 r2 r3 r4 x5 t28 μ H locs ls hM hS (lv_sub hl [0, 1, 2, 3, 4, 5] rfl) h
        have h := h.2
        by_cases c22 : ((xs x5.toNatClampNeg) &&& (nI 63)) = nI 12
        · have h := h.1 c22
          refine mz_table (tgt := 925) S.1 S.2.1 dL_law_44 (by decide) (by rw [c22]; decide +kernel) ?_
          refine W.widen (k := 652 + 2 * t28) (n := 7573 + 12 * t28) (by omega) (by omega) ?_
          exact cB_L_law_925 hl0 S hG hX hbl hbA hgh hend (w_L_law_l28 G o L xs  n) ih r1 r2 r3 r4 x5 t28 μ H locs ls hM hS (lv_sub hl [0, 1, 2, 3, 4, 5] rfl) h
        have h := h.2
        by_cases c23 : ((xs x5.toNatClampNeg) &&& (nI 63)) = nI 13
        · have h := h.1 c23
          refine mz_table (tgt := 993) S.1 S.2.1 dL_law_44 (by decide) (by rw [c23]; decide +kernel) ?_
          refine W.widen (k := 652 + 2 * t28) (n := 7573 + 12 * t28) (by omega) (by omega) ?_
          exact cB_L_law_993 hl0 S hG hX hbl hbA hgh hend (w_L_law_l28 G o L xs  n) ih r1 r2 r3 r4 x5 t28 μ H locs ls hM hS (lv_sub hl [0, 1, 2, 3, 4, 5] rfl) h
        have h := h.2
        by_cases c24 : ((xs x5.toNatClampNeg) &&& (nI 63)) = nI 14
        · have h := h.1 c24
          refine mz_table (tgt := 1068) S.1 S.2.1 dL_law_44 (by decide) (by rw [c24]; decide +kernel) ?_
          refine W.widen (k := 652 + 2 * t28) (n := 7573 + 12 * t28) (by omega) (by omega) ?_
          exact cB_L_law_1068 hl0 S hG hX hbl hbA hgh hend (w_L_law_l28 G o L xs  n) ih r1 r2 r3 r4 x5 t28 μ H locs ls hM hS (lv_sub hl [0, 1, 2, 3, 4, 5] rfl) h
        have h := h.2
        by_cases c25 : ((xs x5.toNatClampNeg) &&& (nI 63)) = nI 15
        · have h := h.1 c25
          refine mz_table (tgt := 1124) S.1 S.2.1 dL_law_44 (by decide) (by rw [c25]; decide +kernel) ?_
          refine W.widen (k := 652 + 2 * t28) (n := 7573 + 12 * t28) (by omega) (by omega) ?_
          exact cB_L_law_1124 hl0 S hG hX hbl hbA hgh hend (w_L_law_l28 G o L xs  n) ih r1 r2 r3 r4 x5 t28 μ H locs ls hM hS (lv_sub hl [0, 1, 2, 3, 4, 5] rfl) h
        have h := h.2
        by_cases c26 : ((xs x5.toNatClampNeg) &&& (nI 63)) = nI 16
        · have h := h.1 c26
          refine mz_table (tgt := 1180) S.1 S.2.1 dL_law_44 (by decide) (by rw [c26]; decide +kernel) ?_
          refine W.widen (k := 652 + 2 * t28) (n := 7573 + 12 * t28) (by omega) (by omega) ?_
          exact cB_L_law_1180 hl0 S hG hX hbl hbA hgh hend (w_L_law_l28 G o L xs  n) ih r1 r2 r3 r4 x5 t28 μ H locs ls hM hS (lv_sub hl [0, 1, 2, 3, 4, 5] rfl) h
        have h := h.2
        by_cases c27 : ((xs x5.toNatClampNeg) &&& (nI 63)) = nI 17
        · have h := h.1 c27
          refine mz_table (tgt := 1193) S.1 S.2.1 dL_law_44 (by decide) (by rw [c27]; decide +kernel) ?_
          refine W.widen (k := 652 + 2 * t28) (n := 7573 + 12 * t28) (by omega) (by omega) ?_
          exact cB_L_law_1193 hl0 S hG hX hbl hbA hgh hend (w_L_law_l28 G o L xs  n) ih r1 r2 r3 r4 x5 t28 μ H locs ls hM hS (lv_sub hl [0, 1, 2, 3, 4, 5] rfl) h
        have h := h.2
        by_cases c28 : ((xs x5.toNatClampNeg) &&& (nI 63)) = nI 18
        · have h := h.1 c28
          refine mz_table (tgt := 1256) S.1 S.2.1 dL_law_44 (by decide) (by rw [c28]; decide +kernel) ?_
          refine W.widen (k := 652 + 2 * t28) (n := 7573 + 12 * t28) (by omega) (by omega) ?_
          exact cB_L_law_1256 hl0 S hG hX hbl hbA hgh hend (w_L_law_l28 G o L xs  n) ih r1 r2 r3 r4 x5 t28 μ H locs ls hM hS (lv_sub hl [0, 1, 2, 3, 4, 5] rfl) h
        have h := h.2
        by_cases c29 : ((xs x5.toNatClampNeg) &&& (nI 63)) = nI 19
        · have h := h.1 c29
          refine mz_table (tgt := 1312) S.1 S.2.1 dL_law_44 (by decide) (by rw [c29]; decide +kernel) ?_
          refine W.widen (k := 652 + 2 * t28) (n := 7573 + 12 * t28) (by omega) (by omega) ?_
          exact cB_L_law_1312 hl0 S hG hX hbl hbA hgh hend (w_L_law_l28 G o L xs  n) ih r1 r2 r3 r4 x5 t28 μ H locs ls hM hS (lv_sub hl [0, 1, 2, 3, 4, 5] rfl) h
        have h := h.2
        by_cases c30 : ((xs x5.toNatClampNeg) &&& (nI 63)) = nI 20
        · have h := h.1 c30
          refine mz_table (tgt := 1368) S.1 S.2.1 dL_law_44 (by decide) (by rw [c30]; decide +kernel) ?_
          refine W.widen (k := 652 + 2 * t28) (n := 7573 + 12 * t28) (by omega) (by omega) ?_
          exact cB_L_law_1368 hl0 S hG hX hbl hbA hgh hend (w_L_law_l28 G o L xs  n) ih r1 r2 r3 r4 x5 t28 μ H locs ls hM hS (lv_sub hl [0, 1, 2, 3, 4, 5] rfl) h
        have h := h.2
        by_cases c31 : ((xs x5.toNatClampNeg) &&& (nI 63)) = nI 21
        · have h := h.1 c31
          refine mz_table (tgt := 1381) S.1 S.2.1 dL_law_44 (by decide) (by rw [c31]; decide +kernel) ?_
          refine W.widen (k := 652 + 2 * t28) (n := 7573 + 12 * t28) (by omega) (by omega) ?_
          exact cB_L_law_1381 hl0 S hG hX hbl hbA hgh hend (w_L_law_l28 G o L xs  n) ih r1 r2 r3 r4 x5 t28 μ H locs ls hM hS (lv_sub hl [0, 1, 2, 3, 4, 5] rfl) h
        have h := h.2
        by_cases c32 : ((xs x5.toNatClampNeg) &&& (nI 63)) = nI 22
        · have h := h.1 c32
          refine mz_table (tgt := 1437) S.1 S.2.1 dL_law_44 (by decide) (by rw [c32]; decide +kernel) ?_
          refine W.widen (k := 652 + 2 * t28) (n := 7573 + 12 * t28) (by omega) (by omega) ?_
          exact cB_L_law_1437 hl0 S hG hX hbl hbA hgh hend (w_L_law_l28 G o L xs  n) ih r1 r2 r3 r4 x5 t28 μ H locs ls hM hS (lv_sub hl [0, 1, 2, 3, 4, 5] rfl) h
        have h := h.2
        by_cases c33 : ((xs x5.toNatClampNeg) &&& (nI 63)) = nI 23
        · have h := h.1 c33
          refine mz_table (tgt := 1493) S.1 S.2.1 dL_law_44 (by decide) (by rw [c33]; decide +kernel) ?_
          refine W.widen (k := 652 + 2 * t28) (n := 7573 + 12 * t28) (by omega) (by omega) ?_
          exact cB_L_law_1493 hl0 S hG hX hbl hbA hgh hend (w_L_law_l28 G o L xs  n) ih r1 r2 r3 r4 x5 t28 μ H locs ls hM hS (lv_sub hl [0, 1, 2, 3, 4, 5] rfl) h
        have h := h.2
        by_cases c34 : ((xs x5.toNatClampNeg) &&& (nI 63)) = nI 24
        · have h := h.1 c34
          refine mz_table (tgt := 1549) S.1 S.2.1 dL_law_44 (by decide) (by rw [c34]; decide +kernel) ?_
          refine W.widen (k := 652 + 2 * t28) (n := 7573 + 12 * t28) (by omega) (by omega) ?_
          exact cB_L_law_1549 hl0 S hG hX hbl hbA hgh hend (w_L_law_l28 G o L xs  n) ih r1 r2 r3 r4 x5 t28 μ H locs ls hM hS (lv_sub hl [0, 1, 2, 3, 4, 5] rfl) h
        have h := h.2
        by_cases c35 : ((xs x5.toNatClampNeg) &&& (nI 63)) = nI 25
        · have h := h.1 c35
          refine mz_table (tgt := 1605) S.1 S.2.1 dL_law_44 (by decide) (by rw [c35]; decide +kernel) ?_
          refine W.widen (k := 652 + 2 * t28) (n := 7573 + 12 * t28) (by omega) (by omega) ?_
          exact cB_L_law_1605 hl0 S hG hX hbl hbA hgh hend (w_L_law_l28 G o L xs  n) ih r1 r2 r3 r4 x5 t28 μ H locs ls hM hS (lv_sub hl [0, 1, 2, 3, 4, 5] rfl) h
        have h := h.2
        by_cases c36 : ((xs x5.toNatClampNeg) &&& (nI 63)) = nI 26
        · have h := h.1 c36
          refine mz_table (tgt := 1661) S.1 S.2.1 dL_law_44 (by decide) (by rw [c36]; decide +kernel) ?_
          refine W.widen (k := 652 + 2 * t28) (n := 7573 + 12 * t28) (by omega) (by omega) ?_
          exact cB_L_law_1661 hl0 S hG hX hbl hbA hgh hend (w_L_law_l28 G o L xs  n) ih r1 r2 r3 r4 x5 t28 μ H locs ls hM hS (lv_sub hl [0, 1, 2, 3, 4, 5] rfl) h
        have h := h.2
        by_cases c37 : ((xs x5.toNatClampNeg) &&& (nI 63)) = nI 27
        · have h := h.1 c37
          refine mz_table (tgt := 1717) S.1 S.2.1 dL_law_44 (by decide) (by rw [c37]; decide +kernel) ?_
          refine W.widen (k := 652 + 2 * t28) (n := 7573 + 12 * t28) (by omega) (by omega) ?_
          exact cB_L_law_1717 hl0 S hG hX hbl hbA hgh hend (w_L_law_l28 G o L xs  n) ih r1 r2 r3 r4 x5 t28 μ H locs ls hM hS (lv_sub hl [0, 1, 2, 3, 4, 5] rfl) h
        have h := h.2
        by_cases c38 : ((xs x5.toNatClampNeg) &&& (nI 63)) = nI 28
        · have h := h.1 c38
          refine mz_table (tgt := 1773) S.1 S.2.1 dL_law_44 (by decide) (by rw [c38]; decide +kernel) ?_
          refine W.widen (k := 652 + 2 * t28) (n := 7573 + 12 * t28) (by omega) (by omega) ?_
          exact cB_L_law_1773 hl0 S hG hX hbl hbA hgh hend (w_L_law_l28 G o L xs  n) ih r1 r2 r3 r4 x5 t28 μ H locs ls hM hS (lv_sub hl [0, 1, 2, 3, 4, 5] rfl) h
        have h := h.2
        by_cases c39 : ((xs x5.toNatClampNeg) &&& (nI 63)) = nI 29
        · have h := h.1 c39
          refine mz_table (tgt := 1836) S.1 S.2.1 dL_law_44 (by decide) (by rw [c39]; decide +kernel) ?_
          refine W.widen (k := 652 + 2 * t28) (n := 7573 + 12 * t28) (by omega) (by omega) ?_
          exact cB_L_law_1836 hl0 S hG hX hbl hbA hgh hend (w_L_law_l28 G o L xs  n) ih r1 r2 r3 r4 x5 t28 μ H locs ls hM hS (lv_sub hl [0, 1, 2, 3, 4, 5] rfl) h
        have h := h.2
        by_cases c40 : ((xs x5.toNatClampNeg) &&& (nI 63)) = nI 30
        · have h := h.1 c40
          refine mz_table (tgt := 1891) S.1 S.2.1 dL_law_44 (by decide) (by rw [c40]; decide +kernel) ?_
          refine W.widen (k := 652 + 2 * t28) (n := 7573 + 12 * t28) (by omega) (by omega) ?_
          exact cB_L_law_1891 hl0 S hG hX hbl hbA hgh hend (w_L_law_l28 G o L xs  n) ih r1 r2 r3 r4 x5 t28 μ H locs ls hM hS (lv_sub hl [0, 1, 2, 3, 4, 5] rfl) h
        have h := h.2
        by_cases c41 : ((xs x5.toNatClampNeg) &&& (nI 63)) = nI 31
        · have h := h.1 c41
          refine mz_table (tgt := 1946) S.1 S.2.1 dL_law_44 (by decide) (by rw [c41]; decide +kernel) ?_
          refine W.widen (k := 652 + 2 * t28) (n := 7573 + 12 * t28) (by omega) (by omega) ?_
          exact cB_L_law_1946 hl0 S hG hX hbl hbA hgh hend (w_L_law_l28 G o L xs  n) ih r1 r2 r3 r4 x5 t28 μ H locs ls hM hS (lv_sub hl [0, 1, 2, 3, 4, 5] rfl) h
        have h := h.2
        by_cases c42 : ((xs x5.toNatClampNeg) &&& (nI 63)) = nI 32
        · have h := h.1 c42
          refine mz_table (tgt := 2002) S.1 S.2.1 dL_law_44 (by decide) (by rw [c42]; decide +kernel) ?_
          refine W.widen (k := 652 + 2 * t28) (n := 7573 + 12 * t28) (by omega) (by omega) ?_
          exact cB_L_law_2002 hl0 S hG hX hbl hbA hgh hend (w_L_law_l28 G o L xs  n) ih r1 r2 r3 r4 x5 t28 μ H locs ls hM hS (lv_sub hl [0, 1, 2, 3, 4, 5] rfl) h
        have h := h.2
        by_cases c43 : ((xs x5.toNatClampNeg) &&& (nI 63)) = nI 33
        · have h := h.1 c43
          refine mz_table (tgt := 2015) S.1 S.2.1 dL_law_44 (by decide) (by rw [c43]; decide +kernel) ?_
          refine W.widen (k := 652 + 2 * t28) (n := 7573 + 12 * t28) (by omega) (by omega) ?_
          exact cB_L_law_2015 hl0 S hG hX hbl hbA hgh hend (w_L_law_l28 G o L xs  n) ih r1 r2 r3 r4 x5 t28 μ H locs ls hM hS (lv_sub hl [0, 1, 2, 3, 4, 5] rfl) h
        have h := h.2
        by_cases c44 : ((xs x5.toNatClampNeg) &&& (nI 63)) = nI 34
        · have h := h.1 c44
          refine mz_table (tgt := 2028) S.1 S.2.1 dL_law_44 (by decide) (by rw [c44]; decide +kernel) ?_
          refine W.widen (k := 652 + 2 * t28) (n := 7573 + 12 * t28) (by omega) (by omega) ?_
          exact cB_L_law_2028 hl0 S hG hX hbl hbA hgh hend (w_L_law_l28 G o L xs  n) ih r1 r2 r3 r4 x5 t28 μ H locs ls hM hS (lv_sub hl [0, 1, 2, 3, 4, 5] rfl) h
        have h := h.2
        by_cases c45 : ((xs x5.toNatClampNeg) &&& (nI 63)) = nI 35
        · have h := h.1 c45
          refine mz_table (tgt := 2041) S.1 S.2.1 dL_law_44 (by decide) (by rw [c45]; decide +kernel) ?_
          refine W.widen (k := 652 + 2 * t28) (n := 7573 + 12 * t28) (by omega) (by omega) ?_
          exact cB_L_law_2041 hl0 S hG hX hbl hbA hgh hend (w_L_law_l28 G o L xs  n) ih r1 r2 r3 r4 x5 t28 μ H locs ls hM hS (lv_sub hl [0, 1, 2, 3, 4, 5] rfl) h
        have h := h.2
        by_cases c46 : ((xs x5.toNatClampNeg) &&& (nI 63)) = nI 36
        · have h := h.1 c46
          refine mz_table (tgt := 2054) S.1 S.2.1 dL_law_44 (by decide) (by rw [c46]; decide +kernel) ?_
          refine W.widen (k := 652 + 2 * t28) (n := 7573 + 12 * t28) (by omega) (by omega) ?_
          exact cB_L_law_2054 hl0 S hG hX hbl hbA hgh hend (w_L_law_l28 G o L xs  n) ih r1 r2 r3 r4 x5 t28 μ H locs ls hM hS (lv_sub hl [0, 1, 2, 3, 4, 5] rfl) h
        have h := h.2
        by_cases c47 : ((xs x5.toNatClampNeg) &&& (nI 63)) = nI 37
        · have h := h.1 c47
          refine mz_table (tgt := 2067) S.1 S.2.1 dL_law_44 (by decide) (by rw [c47]; decide +kernel) ?_
          refine W.widen (k := 652 + 2 * t28) (n := 7573 + 12 * t28) (by omega) (by omega) ?_
          exact cB_L_law_2067 hl0 S hG hX hbl hbA hgh hend (w_L_law_l28 G o L xs  n) ih r1 r2 r3 r4 x5 t28 μ H locs ls hM hS (lv_sub hl [0, 1, 2, 3, 4, 5] rfl) h
        have h := h.2
        by_cases c48 : ((xs x5.toNatClampNeg) &&& (nI 63)) = nI 38
        · have h := h.1 c48
          refine mz_table (tgt := 2080) S.1 S.2.1 dL_law_44 (by decide) (by rw [c48]; decide +kernel) ?_
          refine W.widen (k := 652 + 2 * t28) (n := 7573 + 12 * t28) (by omega) (by omega) ?_
          exact cB_L_law_2080 hl0 S hG hX hbl hbA hgh hend (w_L_law_l28 G o L xs  n) ih r1 r2 r3 r4 x5 t28 μ H locs ls hM hS (lv_sub hl [0, 1, 2, 3, 4, 5] rfl) h
        have h := h.2
        by_cases c49 : ((xs x5.toNatClampNeg) &&& (nI 63)) = nI 39
        · have h := h.1 c49
          refine mz_table (tgt := 2093) S.1 S.2.1 dL_law_44 (by decide) (by rw [c49]; decide +kernel) ?_
          refine W.widen (k := 652 + 2 * t28) (n := 7573 + 12 * t28) (by omega) (by omega) ?_
          exact cB_L_law_2093 hl0 S hG hX hbl hbA hgh hend (w_L_law_l28 G o L xs  n) ih r1 r2 r3 r4 x5 t28 μ H locs ls hM hS (lv_sub hl [0, 1, 2, 3, 4, 5] rfl) h
        have h := h.2
        by_cases c50 : ((xs x5.toNatClampNeg) &&& (nI 63)) = nI 40
        · have h := h.1 c50
          refine mz_table (tgt := 2106) S.1 S.2.1 dL_law_44 (by decide) (by rw [c50]; decide +kernel) ?_
          refine W.widen (k := 652 + 2 * t28) (n := 7573 + 12 * t28) (by omega) (by omega) ?_
          exact cB_L_law_2106 hl0 S hG hX hbl hbA hgh hend (w_L_law_l28 G o L xs  n) ih r1 r2 r3 r4 x5 t28 μ H locs ls hM hS (lv_sub hl [0, 1, 2, 3, 4, 5] rfl) h
        have h := h.2
        by_cases c51 : ((xs x5.toNatClampNeg) &&& (nI 63)) = nI 41
        · have h := h.1 c51
          refine mz_table (tgt := 2119) S.1 S.2.1 dL_law_44 (by decide) (by rw [c51]; decide +kernel) ?_
          refine W.widen (k := 652 + 2 * t28) (n := 7573 + 12 * t28) (by omega) (by omega) ?_
          exact cB_L_law_2119 hl0 S hG hX hbl hbA hgh hend (w_L_law_l28 G o L xs  n) ih r1 r2 r3 r4 x5 t28 μ H locs ls hM hS (lv_sub hl [0, 1, 2, 3, 4, 5] rfl) h
        have h := h.2
        by_cases c52 : ((xs x5.toNatClampNeg) &&& (nI 63)) = nI 42
        · have h := h.1 c52
          refine mz_table (tgt := 2184) S.1 S.2.1 dL_law_44 (by decide) (by rw [c52]; decide +kernel) ?_
          refine W.widen (k := 652 + 2 * t28) (n := 7573 + 12 * t28) (by omega) (by omega) ?_
          exact cB_L_law_2184 hl0 S hG hX hbl hbA hgh hend (w_L_law_l28 G o L xs  n) ih r1 r2 r3 r4 x5 t28 μ H locs ls hM hS (lv_sub hl [0, 1, 2, 3, 4, 5] rfl) h
        have h := h.2
        by_cases c53 : ((xs x5.toNatClampNeg) &&& (nI 63)) = nI 43
        · have h := h.1 c53
          refine mz_table (tgt := 2227) S.1 S.2.1 dL_law_44 (by decide) (by rw [c53]; decide +kernel) ?_
          refine W.widen (k := 652 + 2 * t28) (n := 7573 + 12 * t28) (by omega) (by omega) ?_
          exact cB_L_law_2227 hl0 S hG hX hbl hbA hgh hend (w_L_law_l28 G o L xs  n) ih r1 r2 r3 r4 x5 t28 μ H locs ls hM hS (lv_sub hl [0, 1, 2, 3, 4, 5] rfl) h
        have h := h.2
        by_cases c54 : ((xs x5.toNatClampNeg) &&& (nI 63)) = nI 44
        · have h := h.1 c54
          refine mz_table (tgt := 2293) S.1 S.2.1 dL_law_44 (by decide) (by rw [c54]; decide +kernel) ?_
          refine W.widen (k := 652 + 2 * t28) (n := 7573 + 12 * t28) (by omega) (by omega) ?_
          exact cB_L_law_2293 hl0 S hG hX hbl hbA hgh hend (w_L_law_l28 G o L xs  n) ih r1 r2 r3 r4 x5 t28 μ H locs ls hM hS (lv_sub hl [0, 1, 2, 3, 4, 5] rfl) h
        have h := h.2
        by_cases c55 : ((xs x5.toNatClampNeg) &&& (nI 63)) = nI 45
        · have h := h.1 c55
          refine mz_table (tgt := 2337) S.1 S.2.1 dL_law_44 (by decide) (by rw [c55]; decide +kernel) ?_
          refine W.widen (k := 652 + 2 * t28) (n := 7573 + 12 * t28) (by omega) (by omega) ?_
          exact cB_L_law_2337 hl0 S hG hX hbl hbA hgh hend (w_L_law_l28 G o L xs  n) ih r1 r2 r3 r4 x5 t28 μ H locs ls hM hS (lv_sub hl [0, 1, 2, 3, 4, 5] rfl) h
        have h := h.2
        by_cases c56 : ((xs x5.toNatClampNeg) &&& (nI 63)) = nI 46
        · have h := h.1 c56
          refine mz_table (tgt := 2350) S.1 S.2.1 dL_law_44 (by decide) (by rw [c56]; decide +kernel) ?_
          refine W.widen (k := 652 + 2 * t28) (n := 7573 + 12 * t28) (by omega) (by omega) ?_
          exact cB_L_law_2350 hl0 S hG hX hbl hbA hgh hend (w_L_law_l28 G o L xs  n) ih r1 r2 r3 r4 x5 t28 μ H locs ls hM hS (lv_sub hl [0, 1, 2, 3, 4, 5] rfl) h
        have h := h.2
        by_cases c57 : ((xs x5.toNatClampNeg) &&& (nI 63)) = nI 47
        · have h := h.1 c57
          refine mz_table (tgt := 2406) S.1 S.2.1 dL_law_44 (by decide) (by rw [c57]; decide +kernel) ?_
          refine W.widen (k := 652 + 2 * t28) (n := 7573 + 12 * t28) (by omega) (by omega) ?_
          exact cB_L_law_2406 hl0 S hG hX hbl hbA hgh hend (w_L_law_l28 G o L xs  n) ih r1 r2 r3 r4 x5 t28 μ H locs ls hM hS (lv_sub hl [0, 1, 2, 3, 4, 5] rfl) h
        have h := h.2
        by_cases c58 : ((xs x5.toNatClampNeg) &&& (nI 63)) = nI 48
        · have h := h.1 c58
          refine mz_table (tgt := 2419) S.1 S.2.1 dL_law_44 (by decide) (by rw [c58]; decide +kernel) ?_
          refine W.widen (k := 652 + 2 * t28) (n := 7573 + 12 * t28) (by omega) (by omega) ?_
          exact cB_L_law_2419 hl0 S hG hX hbl hbA hgh hend (w_L_law_l28 G o L xs  n) ih r1 r2 r3 r4 x5 t28 μ H locs ls hM hS (lv_sub hl [0, 1, 2, 3, 4, 5] rfl) h
        have h := h.2
        by_cases c59 : ((xs x5.toNatClampNeg) &&& (nI 63)) = nI 49
        · have h := h.1 c59
          refine mz_table (tgt := 2475) S.1 S.2.1 dL_law_44 (by decide) (by rw [c59]; decide +kernel) ?_
          refine W.widen (k := 652 + 2 * t28) (n := 7573 + 12 * t28) (by omega) (by omega) ?_
          exact cB_L_law_2475 hl0 S hG hX hbl hbA hgh hend (w_L_law_l28 G o L xs  n) ih r1 r2 r3 r4 x5 t28 μ H locs ls hM hS (lv_sub hl [0, 1, 2, 3, 4, 5] rfl) h
        have h := h.2
        by_cases c60 : ((xs x5.toNatClampNeg) &&& (nI 63)) = nI 50
        · have h := h.1 c60
          refine mz_table (tgt := 2533) S.1 S.2.1 dL_law_44 (by decide) (by rw [c60]; decide +kernel) ?_
          refine W.widen (k := 652 + 2 * t28) (n := 7573 + 12 * t28) (by omega) (by omega) ?_
          exact cB_L_law_2533 hl0 S hG hX hbl hbA hgh hend (w_L_law_l28 G o L xs  n) ih r1 r2 r3 r4 x5 t28 μ H locs ls hM hS (lv_sub hl [0, 1, 2, 3, 4, 5] rfl) h
        have h := h.2
        by_cases c61 : ((xs x5.toNatClampNeg) &&& (nI 63)) = nI 51
        · have h := h.1 c61
          refine mz_table (tgt := 2577) S.1 S.2.1 dL_law_44 (by decide) (by rw [c61]; decide +kernel) ?_
          refine W.widen (k := 652 + 2 * t28) (n := 7573 + 12 * t28) (by omega) (by omega) ?_
          exact cB_L_law_2577 hl0 S hG hX hbl hbA hgh hend (w_L_law_l28 G o L xs  n) ih r1 r2 r3 r4 x5 t28 μ H locs ls hM hS (lv_sub hl [0, 1, 2, 3, 4, 5] rfl) h
        have h := h.2
        by_cases c62 : ((xs x5.toNatClampNeg) &&& (nI 63)) = nI 52
        · have h := h.1 c62
          refine mz_table (tgt := 2621) S.1 S.2.1 dL_law_44 (by decide) (by rw [c62]; decide +kernel) ?_
          refine W.widen (k := 652 + 2 * t28) (n := 7573 + 12 * t28) (by omega) (by omega) ?_
          exact cB_L_law_2621 hl0 S hG hX hbl hbA hgh hend (w_L_law_l28 G o L xs  n) ih r1 r2 r3 r4 x5 t28 μ H locs ls hM hS (lv_sub hl [0, 1, 2, 3, 4, 5] rfl) h
        have h := h.2
        by_cases c63 : ((xs x5.toNatClampNeg) &&& (nI 63)) = nI 53
        · have h := h.1 c63
          refine mz_table (tgt := 2665) S.1 S.2.1 dL_law_44 (by decide) (by rw [c63]; decide +kernel) ?_
          refine W.widen (k := 652 + 2 * t28) (n := 7573 + 12 * t28) (by omega) (by omega) ?_
          exact cB_L_law_2665 hl0 S hG hX hbl hbA hgh hend (w_L_law_l28 G o L xs  n) ih r1 r2 r3 r4 x5 t28 μ H locs ls hM hS (lv_sub hl [0, 1, 2, 3, 4, 5] rfl) h
        have h := h.2
        by_cases c64 : ((xs x5.toNatClampNeg) &&& (nI 63)) = nI 54
        · have h := h.1 c64
          refine mz_table (tgt := 2709) S.1 S.2.1 dL_law_44 (by decide) (by rw [c64]; decide +kernel) ?_
          refine W.widen (k := 652 + 2 * t28) (n := 7573 + 12 * t28) (by omega) (by omega) ?_
          exact cB_L_law_2709 hl0 S hG hX hbl hbA hgh hend (w_L_law_l28 G o L xs  n) ih r1 r2 r3 r4 x5 t28 μ H locs ls hM hS (lv_sub hl [0, 1, 2, 3, 4, 5] rfl) h
        have h := h.2
        by_cases c65 : ((xs x5.toNatClampNeg) &&& (nI 63)) = nI 55
        · have h := h c65
          refine mz_table (tgt := 2722) S.1 S.2.1 dL_law_44 (by decide) (by rw [c65]; decide +kernel) ?_
          refine W.widen (k := 652 + 2 * t28) (n := 7573 + 12 * t28) (by omega) (by omega) ?_
          exact cB_L_law_2722 hl0 S hG hX hbl hbA hgh hend (w_L_law_l28 G o L xs  n) ih r1 r2 r3 r4 x5 t28 μ H locs ls hM hS (lv_sub hl [0, 1, 2, 3, 4, 5] rfl) h
        exact absurd (by simp [c10, c11, c12, c13, c14, c15, c16, c17, c18, c19, c20, c21, c22, c23, c24, c25, c26, c27, c28, c29, c30, c31, c32, c33, c34, c35, c36, c37, c38, c39, c40, c41, c42, c43, c44, c45, c46, c47, c48, c49, c50, c51, c52, c53, c54, c55, c56, c57, c58, c59, c60, c61, c62, c63, c64, c65]) c9
set_option maxRecDepth 100000 in
set_option maxHeartbeats 16000000 in
theorem c_L_law {p : Program} {l : Launch} {e : Env} {s : State} {m : MethodId} {args : Array Value} {below : List Frame} {meth : Method} {c : Code} {Z : State → Prop} {G : mgT} {o L : Nat} {xs : Nat → Int32} {μ : mmT} {z : Nat} (hl0 : l.stackTraces = false) (S : CallFix p m c cL_law 9 s args TT RL) (hG : GK G s s.heap) (hX : va_X o L xs s s.heap) (hbl : o < s.heap.size) (hbA : ¬ Ah G o) (hgh : gh G = s.heap.size) (hend : ∀ (pc : Nat) (H : Heap) (ls : Array Slot), decode cL_law pc = .ok (.ireturn, 1) → W p l e room_1 s m args below meth c H [] 603072 7223402 Z (F0 m pc ls [.int 1])) {H : Heap} {locs : List Loc} {ls : Array Slot} (hM : Mm G μ H) (hS : va_S (Ah G) s.heap H locs) (hg : gh G ≤ z) (hz : H.size = z) (hl : lv_has ls 9 [(0, .ref o)]) (h : w_L_law G o L xs μ z) : W p l e room_1 s m args below meth c H locs 0 0 Z (F0 m 0 ls []) := by
  unfold w_L_law at h
  refine mz_new S hG hM hS hz hg cf_9 nv_9 tw_38 tw_39 tw_1 (Nat.le_of_ble_eq_true rfl) (Nat.le_of_ble_eq_true rfl) dL_law_0 (fun H hM hS hz => ?_)
  have hg := Nat.le_succ_of_le hg
  refine W.cs (cells' := 1) (slots' := 10) rfl rfl ?_
  refine lv_dup S.1 S.2.1 dL_law_3 rfl ?_
  obtain ⟨k1, h⟩ := h
  refine mz_I S hG hM hS hz hg (As := []) (rest := [.ref z]) (c_X10_init h) yf_X10_init rfl tw_40 tw_41 ⟨Nat.le_of_ble_eq_true rfl, Nat.le_of_ble_eq_true rfl⟩ ⟨(Nat.le_of_ble_eq_true rfl), (Nat.le_of_ble_eq_true rfl)⟩ rfl hl.1 rfl (Nat.le_of_ble_eq_true rfl) dL_law_4 (fun μ2 z3 H locs h hM hS hg hz => ?_)
  refine W.cs (cells' := 641) (slots' := 4175) rfl rfl ?_
  refine lv_astore_n (i := 1) (lv' := [(1, .ref z), (0, .ref o)]) S.1 S.2.1 dL_law_7 rfl hl (by decide) rfl (fun ls hl => ?_)
  refine mz_new S hG hM hS hz hg cf_10 nv_10 tw_1476 tw_1477 tw_16 (Nat.le_of_ble_eq_true rfl) (Nat.le_of_ble_eq_true rfl) dL_law_8 (fun H hM hS hz => ?_)
  have hg := Nat.le_succ_of_le hg
  refine W.cs (cells' := 642) (slots' := 4195) rfl rfl ?_
  refine lv_dup S.1 S.2.1 dL_law_11 rfl ?_
  obtain ⟨k4, h⟩ := h
  refine mz_I S hG hM hS hz hg (As := []) (rest := [.ref z3]) (c_X11_init h) yf_X11_init rfl tw_1478 tw_1479 ⟨Nat.le_of_ble_eq_true rfl, Nat.le_of_ble_eq_true rfl⟩ ⟨(Nat.le_of_ble_eq_true rfl), (Nat.le_of_ble_eq_true rfl)⟩ rfl hl.1 rfl (Nat.le_of_ble_eq_true rfl) dL_law_12 (fun μ5 z6 H locs h hM hS hg hz => ?_)
  refine W.cs (cells' := 650) (slots' := 7571) rfl rfl ?_
  refine lv_astore_n (lv' := [(2, .ref z3), (1, .ref z), (0, .ref o)]) S.1 S.2.1 dL_law_15 rfl hl (by decide) rfl (fun ls hl => ?_)
  refine lv_iconst (v := (nI 1)) S.1 S.2.1 dL_law_16 (by decide) ?_
  refine mz_newa (j := 3) (atype := .long) S hG hM hS hz hg (by decide) rfl tw_1970 (N := 1) (nI_pos (Nat.le_of_ble_eq_true rfl)) (nI_clamp (Nat.le_of_ble_eq_true rfl)) (Nat.le_of_ble_eq_true rfl) (Nat.le_of_ble_eq_true rfl) (Nat.le_of_ble_eq_true rfl) dL_law_17 (fun H hM hS hz => ?_)
  have hg := Nat.le_succ_of_le hg
  refine W.cs (cells' := 651) (slots' := 7572) rfl rfl ?_
  refine lv_astore_n (lv' := [(3, .ref z6), (2, .ref z3), (1, .ref z), (0, .ref o)]) S.1 S.2.1 dL_law_19 rfl hl (by decide) rfl (fun ls hl => ?_)
  refine lv_iconst (v := (nI 1)) S.1 S.2.1 dL_law_20 (by decide) ?_
  refine mz_newa (j := 4) (atype := .double) S hG hM hS hz hg (by decide) rfl tw_1971 (N := 1) (nI_pos (Nat.le_of_ble_eq_true rfl)) (nI_clamp (Nat.le_of_ble_eq_true rfl)) (Nat.le_of_ble_eq_true rfl) (Nat.le_of_ble_eq_true rfl) (Nat.le_of_ble_eq_true rfl) dL_law_21 (fun H hM hS hz => ?_)
  have hg := Nat.le_succ_of_le hg
  refine W.cs (cells' := 652) (slots' := 7573) rfl rfl ?_
  refine lv_astore (lv' := [(4, .ref (z6 + 1)), (3, .ref z6), (2, .ref z3), (1, .ref z), (0, .ref o)]) S.1 S.2.1 dL_law_23 hl (by decide) rfl (fun ls hl => ?_)
  refine lv_iconst (v := (nI 0)) S.1 S.2.1 dL_law_25 (by decide) ?_
  refine lv_istore (lv' := [(5, .int (nI 0)), (4, .ref (z6 + 1)), (3, .ref z6), (2, .ref z3), (1, .ref z), (0, .ref o)]) S.1 S.2.1 dL_law_26 hl (by decide) rfl (fun ls hl => ?_)
  obtain ⟨n9, h⟩ := h
  refine W.widen (k := 652 + 2 * (0)) (n := 7573 + 12 * (0)) (by omega) (by omega) ?_
  exact cB_L_law_28 hl0 S hG hX hbl hbA hgh hend  n9 (some z) (some z3) (some z6) (some (z6 + 1)) (nI 0) 0 (nA (nA μ5 z6 3 1) (z6 + 1) 4 1) H locs ls hM hS (lv_sub hl [5, 4, 3, 2, 1, 0] rfl) h

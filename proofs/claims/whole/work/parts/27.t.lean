set_option maxRecDepth 100000 in
set_option maxHeartbeats 4000000 in
theorem cB_L_law_396 {p : Program} {l : Launch} {e : Env} {s : State} {m : MethodId} {args : Array Value} {below : List Frame} {meth : Method} {c : Code} {Z : State → Prop} {G : mgT} {o L : Nat} {xs : Nat → Int32} (hl0 : l.stackTraces = false) (S : CallFix p m c cL_law 9 s args TT RL) (hG : GK G s s.heap) (hX : va_X o L xs s s.heap) (hbl : o < s.heap.size) (hbA : ¬ Ah G o) (hgh : gh G = s.heap.size) (hend : ∀ (pc : Nat) (H : Heap) (ls : Array Slot), decode cL_law pc = .ok (.ireturn, 1) → W p l e room_1 s m args below meth c H [] 603072 7223402 Z (F0 m pc ls [.int 1])) : ∀ (K28 : Option Nat → Option Nat → Option Nat → Option Nat → Int32 → Nat → mmT → Prop) (kK28 : ∀ (r1 : Option Nat) (r2 : Option Nat) (r3 : Option Nat) (r4 : Option Nat) (x5 : Int32) (t28 : Nat) (μ : mmT) (H : Heap) (locs : List Loc) (ls : Array Slot), Mm G μ H → va_S (Ah G) s.heap H locs → lv_has ls 9 [(0, .ref o), (1, va_rf r1), (2, va_rf r2), (3, va_rf r3), (4, va_rf r4), (5, .int x5)] → K28 r1 r2 r3 r4 x5 t28 μ → W p l e room_1 s m args below meth c H locs (652 + 2 * t28) (7573 + 12 * t28) Z (F0 m 28 ls [])) (r1 : Option Nat) (r2 : Option Nat) (r3 : Option Nat) (r4 : Option Nat) (x5 : Int32) (t28 : Nat) (μ : mmT) (H : Heap) (locs : List Loc) (ls : Array Slot), Mm G μ H → va_S (Ah G) s.heap H locs → lv_has ls 9 [(0, .ref o), (1, va_rf r1), (2, va_rf r2), (3, va_rf r3), (4, va_rf r4), (5, .int x5)] → w_L_law_b396 G o L xs K28 r1 r2 r3 r4 x5 t28 μ → W p l e room_1 s m args below meth c H locs (652 + 2 * t28) (7573 + 12 * t28) Z (F0 m 396 ls []) := by
  intro K28 kK28 r1 r2 r3 r4 x5 t28 μ H locs ls hM hS hl h
  unfold w_L_law_b396 at h
  obtain ⟨ht28, h⟩ := h
  refine mz_aload_n (x := r1) S.1 S.2.1 dL_law_396 rfl (lv_at hl 1 rfl) ?_
  refine lv_aload_n S.1 S.2.1 dL_law_397 rfl (lv_at hl 0 rfl) ?_
  refine lv_iload S.1 S.2.1 dL_law_398 (lv_at hl 5 rfl) ?_
  refine lv_iconst (v := (nI 1)) S.1 S.2.1 dL_law_400 (by decide) ?_
  refine lv_iadd S.1 S.2.1 dL_law_401 ?_
  obtain ⟨b45, h⟩ := h
  refine va_sld S.1 S.2.1 hX hbl hbA hS b45 dL_law_402 ?_
  refine lv_aload_n S.1 S.2.1 dL_law_403 rfl (lv_at hl 0 rfl) ?_
  refine lv_iload S.1 S.2.1 dL_law_404 (lv_at hl 5 rfl) ?_
  refine lv_iconst (v := (nI 2)) S.1 S.2.1 dL_law_406 (by decide) ?_
  refine lv_iadd S.1 S.2.1 dL_law_407 ?_
  obtain ⟨b46, h⟩ := h
  refine va_sld S.1 S.2.1 hX hbl hbA hS b46 dL_law_408 ?_
  refine mz_aload_n (x := r3) S.1 S.2.1 dL_law_409 rfl (lv_at hl 3 rfl) ?_
  refine mz_SH S hG hM hS (As := [va_rf r1, .int (xs (x5 + (nI 1)).toNatClampNeg), .int (xs (x5 + (nI 2)).toNatClampNeg), va_rf r3]) (rest := []) (c_L_publish hl0 h) yh_L_publish tw_939 tw_940 ⟨Nat.le_of_ble_eq_true rfl, Nat.le_of_ble_eq_true rfl⟩ ⟨(by show (652 + 2 * t28) + 1 ≤ 603072; omega), (by show (7573 + 12 * t28) + 6 ≤ 7223402; omega)⟩ rfl hl.1 rfl (Nat.le_of_ble_eq_true rfl) dL_law_410 (fun v9 μ48 H locs hp hM hS => ?_)
  obtain ⟨u47, rfl, h⟩ := hp
  refine W.cs (cells' := 653 + 2 * t28) (slots' := 7579 + 12 * t28) (by first | omega | (dsimp only; omega)) (by first | omega | (dsimp only; omega)) ?_
  refine lv_istore (lv' := [(6, .int u47), (0, .ref o), (1, va_rf r1), (2, va_rf r2), (3, va_rf r3), (4, va_rf r4), (5, .int x5)]) S.1 S.2.1 dL_law_413 hl (by decide) rfl (fun ls hl => ?_)
  refine mz_aload_n (x := r2) S.1 S.2.1 dL_law_415 rfl (lv_at hl 3 rfl) ?_
  refine lv_aload_n S.1 S.2.1 dL_law_416 rfl (lv_at hl 1 rfl) ?_
  refine lv_iload S.1 S.2.1 dL_law_417 (lv_at hl 6 rfl) ?_
  refine lv_iconst (v := (nI 1)) S.1 S.2.1 dL_law_419 (by decide) ?_
  refine lv_iadd S.1 S.2.1 dL_law_420 ?_
  obtain ⟨b49, h⟩ := h
  refine va_sld S.1 S.2.1 hX hbl hbA hS b49 dL_law_421 ?_
  refine lv_aload_n S.1 S.2.1 dL_law_422 rfl (lv_at hl 1 rfl) ?_
  refine lv_iload S.1 S.2.1 dL_law_423 (lv_at hl 6 rfl) ?_
  refine lv_iconst (v := (nI 2)) S.1 S.2.1 dL_law_425 (by decide) ?_
  refine lv_iadd S.1 S.2.1 dL_law_426 ?_
  obtain ⟨b50, h⟩ := h
  refine va_sld S.1 S.2.1 hX hbl hbA hS b50 dL_law_427 ?_
  obtain ⟨a51, e52, h⟩ := h
  refine mz_o2 e52 ?_
  obtain ⟨k53, h⟩ := h
  refine mz_V S hG hM hS cf_10 k53 (As := [.int (xs (x5 + (nI 1)).toNatClampNeg), .int (xs (x5 + (nI 2)).toNatClampNeg)]) (rest := []) (c_X11_publish h) yf_X11_publish tw_1590 tw_1591 tw_1592 ⟨Nat.le_of_ble_eq_true rfl, Nat.le_of_ble_eq_true rfl⟩ ⟨(by show (653 + 2 * t28) + 0 ≤ 603072; omega), (by show (7579 + 12 * t28) + 0 ≤ 7223402; omega)⟩ rfl hl.1 rfl (Nat.le_of_ble_eq_true rfl) dL_law_428 (fun v9 μ55 H locs hp hM hS => ?_)
  obtain ⟨u54, rfl, h⟩ := hp
  refine W.cs (cells' := 653 + 2 * t28) (slots' := 7579 + 12 * t28) (by first | omega | (dsimp only; omega)) (by first | omega | (dsimp only; omega)) ?_
  refine lv_istore (lv' := [(7, .int u54), (6, .int u47), (0, .ref o), (1, va_rf r1), (2, va_rf r2), (3, va_rf r3), (4, va_rf r4), (5, .int x5)]) S.1 S.2.1 dL_law_431 hl (by decide) rfl (fun ls hl => ?_)
  refine mz_aload_n (x := r2) S.1 S.2.1 dL_law_433 rfl (lv_at hl 4 rfl) ?_
  refine mz_o0 e52 ?_
  obtain ⟨k56, h⟩ := h
  refine mz_V S hG hM hS cf_10 k56 (As := []) (rest := []) (c_X11_thrown h) yf_X11_thrown tw_1543 tw_1544 tw_1545 ⟨Nat.le_of_ble_eq_true rfl, Nat.le_of_ble_eq_true rfl⟩ ⟨(by show (653 + 2 * t28) + 0 ≤ 603072; omega), (by show (7579 + 12 * t28) + 0 ≤ 7223402; omega)⟩ rfl hl.1 rfl (Nat.le_of_ble_eq_true rfl) dL_law_434 (fun v9 μ9 H locs hp hM hS => ?_)
  obtain ⟨u57, rfl, e9, h⟩ := hp
  rw [e9] at hM
  refine W.cs (cells' := 653 + 2 * t28) (slots' := 7579 + 12 * t28) (by first | omega | (dsimp only; omega)) (by first | omega | (dsimp only; omega)) ?_
  refine lv_iload S.1 S.2.1 dL_law_437 (lv_at hl 1 rfl) ?_
  refine lv_icmp_eq (tgt := 444) S.1 S.2.1 dL_law_439 (by decide) (fun c58 => ?_) (fun c58 => ?_)
  · have h := h.1 c58
    refine lv_iload S.1 S.2.1 dL_law_444 (lv_at hl 1 rfl) ?_
    refine lv_if_ne (tgt := 461) S.1 S.2.1 dL_law_446 (by decide) (fun c59 => ?_) (fun c59 => ?_)
    · have h := h.1 c59
      refine W.widen (k := 654 + 2 * t28) (n := 7585 + 12 * t28) (by omega) (by omega) ?_
      exact cB_L_law_461 hl0 S hG hX hbl hbA hgh hend K28 kK28 r1 r2 r3 r4 x5 t28 μ55 H locs ls hM hS (lv_sub hl [2, 3, 4, 5, 6, 7] rfl) h
    · have h := h.2 c59
      refine mz_aload_n (x := r3) S.1 S.2.1 dL_law_449 rfl (lv_at hl 5 rfl) ?_
      refine lv_iconst (v := (nI 0)) S.1 S.2.1 dL_law_450 (by decide) ?_
      obtain ⟨a60, e61, h⟩ := h
      refine mz_o1 e61 ?_
      obtain ⟨k62, h⟩ := h
      obtain ⟨b63, h⟩ := h
      refine mz_lald S hG hM dL_law_451 k62 b63 ?_
      refine lv_iload S.1 S.2.1 dL_law_452 (lv_at hl 0 rfl) ?_
      refine lv_i2l S.1 S.2.1 dL_law_454 rfl ?_
      refine W.lcmp S.1 S.2.1 dL_law_455 ?_
      refine lv_if_eq (tgt := 461) S.1 S.2.1 dL_law_456 (by decide) (fun c64 => ?_) (fun c64 => ?_)
      · have h := h.1 c64
        refine W.widen (k := 654 + 2 * t28) (n := 7585 + 12 * t28) (by omega) (by omega) ?_
        exact cB_L_law_461 hl0 S hG hX hbl hbA hgh hend K28 kK28 r1 r2 r3 r4 x5 t28 μ55 H locs ls hM hS (lv_sub hl [2, 3, 4, 5, 6, 7] rfl) h
      · have h := h.2 c64
        refine lv_iconst (v := (nI 0)) S.1 S.2.1 dL_law_459 (by decide) ?_
        exact h.elim
  · have h := h.2 c58
    refine lv_iconst (v := (nI 0)) S.1 S.2.1 dL_law_442 (by decide) ?_
    exact h.elim
set_option maxRecDepth 100000 in
set_option maxHeartbeats 4000000 in
theorem cB_L_law_517 {p : Program} {l : Launch} {e : Env} {s : State} {m : MethodId} {args : Array Value} {below : List Frame} {meth : Method} {c : Code} {Z : State → Prop} {G : mgT} {o L : Nat} {xs : Nat → Int32} (hl0 : l.stackTraces = false) (S : CallFix p m c cL_law 9 s args TT RL) (hG : GK G s s.heap) (hX : va_X o L xs s s.heap) (hbl : o < s.heap.size) (hbA : ¬ Ah G o) (hgh : gh G = s.heap.size) (hend : ∀ (pc : Nat) (H : Heap) (ls : Array Slot), decode cL_law pc = .ok (.ireturn, 1) → W p l e room_1 s m args below meth c H [] 603072 7223402 Z (F0 m pc ls [.int 1])) : ∀ (K28 : Option Nat → Option Nat → Option Nat → Option Nat → Int32 → Nat → mmT → Prop) (kK28 : ∀ (r1 : Option Nat) (r2 : Option Nat) (r3 : Option Nat) (r4 : Option Nat) (x5 : Int32) (t28 : Nat) (μ : mmT) (H : Heap) (locs : List Loc) (ls : Array Slot), Mm G μ H → va_S (Ah G) s.heap H locs → lv_has ls 9 [(0, .ref o), (1, va_rf r1), (2, va_rf r2), (3, va_rf r3), (4, va_rf r4), (5, .int x5)] → K28 r1 r2 r3 r4 x5 t28 μ → W p l e room_1 s m args below meth c H locs (652 + 2 * t28) (7573 + 12 * t28) Z (F0 m 28 ls [])) (r1 : Option Nat) (r2 : Option Nat) (r3 : Option Nat) (r4 : Option Nat) (x5 : Int32) (t28 : Nat) (μ : mmT) (H : Heap) (locs : List Loc) (ls : Array Slot), Mm G μ H → va_S (Ah G) s.heap H locs → lv_has ls 9 [(0, .ref o), (1, va_rf r1), (2, va_rf r2), (3, va_rf r3), (4, va_rf r4), (5, .int x5)] → w_L_law_b517 G o L xs K28 r1 r2 r3 r4 x5 t28 μ → W p l e room_1 s m args below meth c H locs (654 + 2 * t28) (7585 + 12 * t28) Z (F0 m 517 ls []) := by
  intro K28 kK28 r1 r2 r3 r4 x5 t28 μ H locs ls hM hS hl h
  unfold w_L_law_b517 at h
  obtain ⟨ht28, h⟩ := h
  refine lv_goto (tgt := 2766) S.1 S.2.1 dL_law_517 (by decide) ?_
  refine W.widen (k := 654 + 2 * t28) (n := 7585 + 12 * t28) (by omega) (by omega) ?_
  exact cB_L_law_2766 hl0 S hG hX hbl hbA hgh hend K28 kK28 r1 r2 r3 r4 x5 t28 μ H locs ls hM hS (lv_sub hl [0, 1, 2, 3, 4, 5] rfl) h
set_option maxRecDepth 100000 in
set_option maxHeartbeats 4000000 in
theorem cB_L_law_464 {p : Program} {l : Launch} {e : Env} {s : State} {m : MethodId} {args : Array Value} {below : List Frame} {meth : Method} {c : Code} {Z : State → Prop} {G : mgT} {o L : Nat} {xs : Nat → Int32} (hl0 : l.stackTraces = false) (S : CallFix p m c cL_law 9 s args TT RL) (hG : GK G s s.heap) (hX : va_X o L xs s s.heap) (hbl : o < s.heap.size) (hbA : ¬ Ah G o) (hgh : gh G = s.heap.size) (hend : ∀ (pc : Nat) (H : Heap) (ls : Array Slot), decode cL_law pc = .ok (.ireturn, 1) → W p l e room_1 s m args below meth c H [] 603072 7223402 Z (F0 m pc ls [.int 1])) : ∀ (K28 : Option Nat → Option Nat → Option Nat → Option Nat → Int32 → Nat → mmT → Prop) (kK28 : ∀ (r1 : Option Nat) (r2 : Option Nat) (r3 : Option Nat) (r4 : Option Nat) (x5 : Int32) (t28 : Nat) (μ : mmT) (H : Heap) (locs : List Loc) (ls : Array Slot), Mm G μ H → va_S (Ah G) s.heap H locs → lv_has ls 9 [(0, .ref o), (1, va_rf r1), (2, va_rf r2), (3, va_rf r3), (4, va_rf r4), (5, .int x5)] → K28 r1 r2 r3 r4 x5 t28 μ → W p l e room_1 s m args below meth c H locs (652 + 2 * t28) (7573 + 12 * t28) Z (F0 m 28 ls [])) (r1 : Option Nat) (r2 : Option Nat) (r3 : Option Nat) (r4 : Option Nat) (x5 : Int32) (t28 : Nat) (μ : mmT) (H : Heap) (locs : List Loc) (ls : Array Slot), Mm G μ H → va_S (Ah G) s.heap H locs → lv_has ls 9 [(0, .ref o), (1, va_rf r1), (2, va_rf r2), (3, va_rf r3), (4, va_rf r4), (5, .int x5)] → w_L_law_b464 G o L xs K28 r1 r2 r3 r4 x5 t28 μ → W p l e room_1 s m args below meth c H locs (652 + 2 * t28) (7573 + 12 * t28) Z (F0 m 464 ls []) := by
  intro K28 kK28 r1 r2 r3 r4 x5 t28 μ H locs ls hM hS hl h
  unfold w_L_law_b464 at h
  obtain ⟨ht28, h⟩ := h
  refine mz_aload_n (x := r1) S.1 S.2.1 dL_law_464 rfl (lv_at hl 1 rfl) ?_
  refine lv_aload_n S.1 S.2.1 dL_law_465 rfl (lv_at hl 0 rfl) ?_
  refine lv_iload S.1 S.2.1 dL_law_466 (lv_at hl 5 rfl) ?_
  refine lv_iconst (v := (nI 1)) S.1 S.2.1 dL_law_468 (by decide) ?_
  refine lv_iadd S.1 S.2.1 dL_law_469 ?_
  obtain ⟨b65, h⟩ := h
  refine va_sld S.1 S.2.1 hX hbl hbA hS b65 dL_law_470 ?_
  refine mz_aload_n (x := r3) S.1 S.2.1 dL_law_471 rfl (lv_at hl 3 rfl) ?_
  refine mz_SH S hG hM hS (As := [va_rf r1, .int (xs (x5 + (nI 1)).toNatClampNeg), va_rf r3]) (rest := []) (c_L_read hl0 h) yh_L_read tw_961 tw_962 ⟨Nat.le_of_ble_eq_true rfl, Nat.le_of_ble_eq_true rfl⟩ ⟨(by show (652 + 2 * t28) + 1 ≤ 603072; omega), (by show (7573 + 12 * t28) + 6 ≤ 7223402; omega)⟩ rfl hl.1 rfl (Nat.le_of_ble_eq_true rfl) dL_law_472 (fun v9 μ67 H locs hp hM hS => ?_)
  obtain ⟨u66, rfl, h⟩ := hp
  refine W.cs (cells' := 653 + 2 * t28) (slots' := 7579 + 12 * t28) (by first | omega | (dsimp only; omega)) (by first | omega | (dsimp only; omega)) ?_
  refine lv_istore (lv' := [(6, .int u66), (0, .ref o), (1, va_rf r1), (2, va_rf r2), (3, va_rf r3), (4, va_rf r4), (5, .int x5)]) S.1 S.2.1 dL_law_475 hl (by decide) rfl (fun ls hl => ?_)
  refine mz_aload_n (x := r2) S.1 S.2.1 dL_law_477 rfl (lv_at hl 3 rfl) ?_
  refine lv_aload_n S.1 S.2.1 dL_law_478 rfl (lv_at hl 1 rfl) ?_
  refine lv_iload S.1 S.2.1 dL_law_479 (lv_at hl 6 rfl) ?_
  refine lv_iconst (v := (nI 1)) S.1 S.2.1 dL_law_481 (by decide) ?_
  refine lv_iadd S.1 S.2.1 dL_law_482 ?_
  obtain ⟨b68, h⟩ := h
  refine va_sld S.1 S.2.1 hX hbl hbA hS b68 dL_law_483 ?_
  obtain ⟨a69, e70, h⟩ := h
  refine mz_o1 e70 ?_
  obtain ⟨k71, h⟩ := h
  refine mz_V S hG hM hS cf_10 k71 (As := [.int (xs (x5 + (nI 1)).toNatClampNeg)]) (rest := []) (c_X11_read h) yf_X11_read tw_1606 tw_1607 tw_1608 ⟨Nat.le_of_ble_eq_true rfl, Nat.le_of_ble_eq_true rfl⟩ ⟨(by show (653 + 2 * t28) + 0 ≤ 603072; omega), (by show (7579 + 12 * t28) + 0 ≤ 7223402; omega)⟩ rfl hl.1 rfl (Nat.le_of_ble_eq_true rfl) dL_law_484 (fun v9 μ73 H locs hp hM hS => ?_)
  obtain ⟨u72, rfl, h⟩ := hp
  refine W.cs (cells' := 653 + 2 * t28) (slots' := 7579 + 12 * t28) (by first | omega | (dsimp only; omega)) (by first | omega | (dsimp only; omega)) ?_
  refine lv_istore (lv' := [(7, .int u72), (6, .int u66), (0, .ref o), (1, va_rf r1), (2, va_rf r2), (3, va_rf r3), (4, va_rf r4), (5, .int x5)]) S.1 S.2.1 dL_law_487 hl (by decide) rfl (fun ls hl => ?_)
  refine mz_aload_n (x := r2) S.1 S.2.1 dL_law_489 rfl (lv_at hl 4 rfl) ?_
  refine mz_o0 e70 ?_
  obtain ⟨k74, h⟩ := h
  refine mz_V S hG hM hS cf_10 k74 (As := []) (rest := []) (c_X11_thrown h) yf_X11_thrown tw_1543 tw_1544 tw_1545 ⟨Nat.le_of_ble_eq_true rfl, Nat.le_of_ble_eq_true rfl⟩ ⟨(by show (653 + 2 * t28) + 0 ≤ 603072; omega), (by show (7579 + 12 * t28) + 0 ≤ 7223402; omega)⟩ rfl hl.1 rfl (Nat.le_of_ble_eq_true rfl) dL_law_490 (fun v9 μ9 H locs hp hM hS => ?_)
  obtain ⟨u75, rfl, e9, h⟩ := hp
  rw [e9] at hM
  refine W.cs (cells' := 653 + 2 * t28) (slots' := 7579 + 12 * t28) (by first | omega | (dsimp only; omega)) (by first | omega | (dsimp only; omega)) ?_
  refine lv_iload S.1 S.2.1 dL_law_493 (lv_at hl 1 rfl) ?_
  refine lv_icmp_eq (tgt := 500) S.1 S.2.1 dL_law_495 (by decide) (fun c76 => ?_) (fun c76 => ?_)
  · have h := h.1 c76
    refine lv_iload S.1 S.2.1 dL_law_500 (lv_at hl 1 rfl) ?_
    refine lv_if_ne (tgt := 517) S.1 S.2.1 dL_law_502 (by decide) (fun c77 => ?_) (fun c77 => ?_)
    · have h := h.1 c77
      refine W.widen (k := 654 + 2 * t28) (n := 7585 + 12 * t28) (by omega) (by omega) ?_
      exact cB_L_law_517 hl0 S hG hX hbl hbA hgh hend K28 kK28 r1 r2 r3 r4 x5 t28 μ73 H locs ls hM hS (lv_sub hl [2, 3, 4, 5, 6, 7] rfl) h
    · have h := h.2 c77
      refine mz_aload_n (x := r3) S.1 S.2.1 dL_law_505 rfl (lv_at hl 5 rfl) ?_
      refine lv_iconst (v := (nI 0)) S.1 S.2.1 dL_law_506 (by decide) ?_
      obtain ⟨a78, e79, h⟩ := h
      refine mz_o1 e79 ?_
      obtain ⟨k80, h⟩ := h
      obtain ⟨b81, h⟩ := h
      refine mz_lald S hG hM dL_law_507 k80 b81 ?_
      refine lv_iload S.1 S.2.1 dL_law_508 (lv_at hl 0 rfl) ?_
      refine lv_i2l S.1 S.2.1 dL_law_510 rfl ?_
      refine W.lcmp S.1 S.2.1 dL_law_511 ?_
      refine lv_if_eq (tgt := 517) S.1 S.2.1 dL_law_512 (by decide) (fun c82 => ?_) (fun c82 => ?_)
      · have h := h.1 c82
        refine W.widen (k := 654 + 2 * t28) (n := 7585 + 12 * t28) (by omega) (by omega) ?_
        exact cB_L_law_517 hl0 S hG hX hbl hbA hgh hend K28 kK28 r1 r2 r3 r4 x5 t28 μ73 H locs ls hM hS (lv_sub hl [2, 3, 4, 5, 6, 7] rfl) h
      · have h := h.2 c82
        refine lv_iconst (v := (nI 0)) S.1 S.2.1 dL_law_515 (by decide) ?_
        exact h.elim
  · have h := h.2 c76
    refine lv_iconst (v := (nI 0)) S.1 S.2.1 dL_law_498 (by decide) ?_
    exact h.elim
set_option maxRecDepth 100000 in
set_option maxHeartbeats 4000000 in
theorem cB_L_law_573 {p : Program} {l : Launch} {e : Env} {s : State} {m : MethodId} {args : Array Value} {below : List Frame} {meth : Method} {c : Code} {Z : State → Prop} {G : mgT} {o L : Nat} {xs : Nat → Int32} (hl0 : l.stackTraces = false) (S : CallFix p m c cL_law 9 s args TT RL) (hG : GK G s s.heap) (hX : va_X o L xs s s.heap) (hbl : o < s.heap.size) (hbA : ¬ Ah G o) (hgh : gh G = s.heap.size) (hend : ∀ (pc : Nat) (H : Heap) (ls : Array Slot), decode cL_law pc = .ok (.ireturn, 1) → W p l e room_1 s m args below meth c H [] 603072 7223402 Z (F0 m pc ls [.int 1])) : ∀ (K28 : Option Nat → Option Nat → Option Nat → Option Nat → Int32 → Nat → mmT → Prop) (kK28 : ∀ (r1 : Option Nat) (r2 : Option Nat) (r3 : Option Nat) (r4 : Option Nat) (x5 : Int32) (t28 : Nat) (μ : mmT) (H : Heap) (locs : List Loc) (ls : Array Slot), Mm G μ H → va_S (Ah G) s.heap H locs → lv_has ls 9 [(0, .ref o), (1, va_rf r1), (2, va_rf r2), (3, va_rf r3), (4, va_rf r4), (5, .int x5)] → K28 r1 r2 r3 r4 x5 t28 μ → W p l e room_1 s m args below meth c H locs (652 + 2 * t28) (7573 + 12 * t28) Z (F0 m 28 ls [])) (r1 : Option Nat) (r2 : Option Nat) (r3 : Option Nat) (r4 : Option Nat) (x5 : Int32) (t28 : Nat) (μ : mmT) (H : Heap) (locs : List Loc) (ls : Array Slot), Mm G μ H → va_S (Ah G) s.heap H locs → lv_has ls 9 [(0, .ref o), (1, va_rf r1), (2, va_rf r2), (3, va_rf r3), (4, va_rf r4), (5, .int x5)] → w_L_law_b573 G o L xs K28 r1 r2 r3 r4 x5 t28 μ → W p l e room_1 s m args below meth c H locs (654 + 2 * t28) (7585 + 12 * t28) Z (F0 m 573 ls []) := by
  intro K28 kK28 r1 r2 r3 r4 x5 t28 μ H locs ls hM hS hl h
  unfold w_L_law_b573 at h
  obtain ⟨ht28, h⟩ := h
  refine lv_goto (tgt := 2766) S.1 S.2.1 dL_law_573 (by decide) ?_
  refine W.widen (k := 654 + 2 * t28) (n := 7585 + 12 * t28) (by omega) (by omega) ?_
  exact cB_L_law_2766 hl0 S hG hX hbl hbA hgh hend K28 kK28 r1 r2 r3 r4 x5 t28 μ H locs ls hM hS (lv_sub hl [0, 1, 2, 3, 4, 5] rfl) h
set_option maxRecDepth 100000 in
set_option maxHeartbeats 4000000 in
theorem cB_L_law_520 {p : Program} {l : Launch} {e : Env} {s : State} {m : MethodId} {args : Array Value} {below : List Frame} {meth : Method} {c : Code} {Z : State → Prop} {G : mgT} {o L : Nat} {xs : Nat → Int32} (hl0 : l.stackTraces = false) (S : CallFix p m c cL_law 9 s args TT RL) (hG : GK G s s.heap) (hX : va_X o L xs s s.heap) (hbl : o < s.heap.size) (hbA : ¬ Ah G o) (hgh : gh G = s.heap.size) (hend : ∀ (pc : Nat) (H : Heap) (ls : Array Slot), decode cL_law pc = .ok (.ireturn, 1) → W p l e room_1 s m args below meth c H [] 603072 7223402 Z (F0 m pc ls [.int 1])) : ∀ (K28 : Option Nat → Option Nat → Option Nat → Option Nat → Int32 → Nat → mmT → Prop) (kK28 : ∀ (r1 : Option Nat) (r2 : Option Nat) (r3 : Option Nat) (r4 : Option Nat) (x5 : Int32) (t28 : Nat) (μ : mmT) (H : Heap) (locs : List Loc) (ls : Array Slot), Mm G μ H → va_S (Ah G) s.heap H locs → lv_has ls 9 [(0, .ref o), (1, va_rf r1), (2, va_rf r2), (3, va_rf r3), (4, va_rf r4), (5, .int x5)] → K28 r1 r2 r3 r4 x5 t28 μ → W p l e room_1 s m args below meth c H locs (652 + 2 * t28) (7573 + 12 * t28) Z (F0 m 28 ls [])) (r1 : Option Nat) (r2 : Option Nat) (r3 : Option Nat) (r4 : Option Nat) (x5 : Int32) (t28 : Nat) (μ : mmT) (H : Heap) (locs : List Loc) (ls : Array Slot), Mm G μ H → va_S (Ah G) s.heap H locs → lv_has ls 9 [(0, .ref o), (1, va_rf r1), (2, va_rf r2), (3, va_rf r3), (4, va_rf r4), (5, .int x5)] → w_L_law_b520 G o L xs K28 r1 r2 r3 r4 x5 t28 μ → W p l e room_1 s m args below meth c H locs (652 + 2 * t28) (7573 + 12 * t28) Z (F0 m 520 ls []) := by
  intro K28 kK28 r1 r2 r3 r4 x5 t28 μ H locs ls hM hS hl h
  unfold w_L_law_b520 at h
  obtain ⟨ht28, h⟩ := h
  refine mz_aload_n (x := r1) S.1 S.2.1 dL_law_520 rfl (lv_at hl 1 rfl) ?_
  refine lv_aload_n S.1 S.2.1 dL_law_521 rfl (lv_at hl 0 rfl) ?_
  refine lv_iload S.1 S.2.1 dL_law_522 (lv_at hl 5 rfl) ?_
  refine lv_iconst (v := (nI 1)) S.1 S.2.1 dL_law_524 (by decide) ?_
  refine lv_iadd S.1 S.2.1 dL_law_525 ?_
  obtain ⟨b83, h⟩ := h
  refine va_sld S.1 S.2.1 hX hbl hbA hS b83 dL_law_526 ?_
  refine mz_aload_n (x := r3) S.1 S.2.1 dL_law_527 rfl (lv_at hl 3 rfl) ?_
  refine mz_SH S hG hM hS (As := [va_rf r1, .int (xs (x5 + (nI 1)).toNatClampNeg), va_rf r3]) (rest := []) (c_L_cancel hl0 h) yh_L_cancel tw_985 tw_986 ⟨Nat.le_of_ble_eq_true rfl, Nat.le_of_ble_eq_true rfl⟩ ⟨(by show (652 + 2 * t28) + 1 ≤ 603072; omega), (by show (7573 + 12 * t28) + 6 ≤ 7223402; omega)⟩ rfl hl.1 rfl (Nat.le_of_ble_eq_true rfl) dL_law_528 (fun v9 μ85 H locs hp hM hS => ?_)
  obtain ⟨u84, rfl, h⟩ := hp
  refine W.cs (cells' := 653 + 2 * t28) (slots' := 7579 + 12 * t28) (by first | omega | (dsimp only; omega)) (by first | omega | (dsimp only; omega)) ?_
  refine lv_istore (lv' := [(6, .int u84), (0, .ref o), (1, va_rf r1), (2, va_rf r2), (3, va_rf r3), (4, va_rf r4), (5, .int x5)]) S.1 S.2.1 dL_law_531 hl (by decide) rfl (fun ls hl => ?_)
  refine mz_aload_n (x := r2) S.1 S.2.1 dL_law_533 rfl (lv_at hl 3 rfl) ?_
  refine lv_aload_n S.1 S.2.1 dL_law_534 rfl (lv_at hl 1 rfl) ?_
  refine lv_iload S.1 S.2.1 dL_law_535 (lv_at hl 6 rfl) ?_
  refine lv_iconst (v := (nI 1)) S.1 S.2.1 dL_law_537 (by decide) ?_
  refine lv_iadd S.1 S.2.1 dL_law_538 ?_
  obtain ⟨b86, h⟩ := h
  refine va_sld S.1 S.2.1 hX hbl hbA hS b86 dL_law_539 ?_
  obtain ⟨a87, e88, h⟩ := h
  refine mz_o1 e88 ?_
  obtain ⟨k89, h⟩ := h
  refine mz_V S hG hM hS cf_10 k89 (As := [.int (xs (x5 + (nI 1)).toNatClampNeg)]) (rest := []) (c_X11_cancel h) yf_X11_cancel tw_1630 tw_1631 tw_1632 ⟨Nat.le_of_ble_eq_true rfl, Nat.le_of_ble_eq_true rfl⟩ ⟨(by show (653 + 2 * t28) + 0 ≤ 603072; omega), (by show (7579 + 12 * t28) + 0 ≤ 7223402; omega)⟩ rfl hl.1 rfl (Nat.le_of_ble_eq_true rfl) dL_law_540 (fun v9 μ91 H locs hp hM hS => ?_)
  obtain ⟨u90, rfl, h⟩ := hp
  refine W.cs (cells' := 653 + 2 * t28) (slots' := 7579 + 12 * t28) (by first | omega | (dsimp only; omega)) (by first | omega | (dsimp only; omega)) ?_
  refine lv_istore (lv' := [(7, .int u90), (6, .int u84), (0, .ref o), (1, va_rf r1), (2, va_rf r2), (3, va_rf r3), (4, va_rf r4), (5, .int x5)]) S.1 S.2.1 dL_law_543 hl (by decide) rfl (fun ls hl => ?_)
  refine mz_aload_n (x := r2) S.1 S.2.1 dL_law_545 rfl (lv_at hl 4 rfl) ?_
  refine mz_o0 e88 ?_
  obtain ⟨k92, h⟩ := h
  refine mz_V S hG hM hS cf_10 k92 (As := []) (rest := []) (c_X11_thrown h) yf_X11_thrown tw_1543 tw_1544 tw_1545 ⟨Nat.le_of_ble_eq_true rfl, Nat.le_of_ble_eq_true rfl⟩ ⟨(by show (653 + 2 * t28) + 0 ≤ 603072; omega), (by show (7579 + 12 * t28) + 0 ≤ 7223402; omega)⟩ rfl hl.1 rfl (Nat.le_of_ble_eq_true rfl) dL_law_546 (fun v9 μ9 H locs hp hM hS => ?_)
  obtain ⟨u93, rfl, e9, h⟩ := hp
  rw [e9] at hM
  refine W.cs (cells' := 653 + 2 * t28) (slots' := 7579 + 12 * t28) (by first | omega | (dsimp only; omega)) (by first | omega | (dsimp only; omega)) ?_
  refine lv_iload S.1 S.2.1 dL_law_549 (lv_at hl 1 rfl) ?_
  refine lv_icmp_eq (tgt := 556) S.1 S.2.1 dL_law_551 (by decide) (fun c94 => ?_) (fun c94 => ?_)
  · have h := h.1 c94
    refine lv_iload S.1 S.2.1 dL_law_556 (lv_at hl 1 rfl) ?_
    refine lv_if_ne (tgt := 573) S.1 S.2.1 dL_law_558 (by decide) (fun c95 => ?_) (fun c95 => ?_)
    · have h := h.1 c95
      refine W.widen (k := 654 + 2 * t28) (n := 7585 + 12 * t28) (by omega) (by omega) ?_
      exact cB_L_law_573 hl0 S hG hX hbl hbA hgh hend K28 kK28 r1 r2 r3 r4 x5 t28 μ91 H locs ls hM hS (lv_sub hl [2, 3, 4, 5, 6, 7] rfl) h
    · have h := h.2 c95
      refine mz_aload_n (x := r3) S.1 S.2.1 dL_law_561 rfl (lv_at hl 5 rfl) ?_
      refine lv_iconst (v := (nI 0)) S.1 S.2.1 dL_law_562 (by decide) ?_
      obtain ⟨a96, e97, h⟩ := h
      refine mz_o1 e97 ?_
      obtain ⟨k98, h⟩ := h
      obtain ⟨b99, h⟩ := h
      refine mz_lald S hG hM dL_law_563 k98 b99 ?_
      refine lv_iload S.1 S.2.1 dL_law_564 (lv_at hl 0 rfl) ?_
      refine lv_i2l S.1 S.2.1 dL_law_566 rfl ?_
      refine W.lcmp S.1 S.2.1 dL_law_567 ?_
      refine lv_if_eq (tgt := 573) S.1 S.2.1 dL_law_568 (by decide) (fun c100 => ?_) (fun c100 => ?_)
      · have h := h.1 c100
        refine W.widen (k := 654 + 2 * t28) (n := 7585 + 12 * t28) (by omega) (by omega) ?_
        exact cB_L_law_573 hl0 S hG hX hbl hbA hgh hend K28 kK28 r1 r2 r3 r4 x5 t28 μ91 H locs ls hM hS (lv_sub hl [2, 3, 4, 5, 6, 7] rfl) h
      · have h := h.2 c100
        refine lv_iconst (v := (nI 0)) S.1 S.2.1 dL_law_571 (by decide) ?_
        exact h.elim
  · have h := h.2 c94
    refine lv_iconst (v := (nI 0)) S.1 S.2.1 dL_law_554 (by decide) ?_
    exact h.elim
set_option maxRecDepth 100000 in
set_option maxHeartbeats 4000000 in
theorem cB_L_law_629 {p : Program} {l : Launch} {e : Env} {s : State} {m : MethodId} {args : Array Value} {below : List Frame} {meth : Method} {c : Code} {Z : State → Prop} {G : mgT} {o L : Nat} {xs : Nat → Int32} (hl0 : l.stackTraces = false) (S : CallFix p m c cL_law 9 s args TT RL) (hG : GK G s s.heap) (hX : va_X o L xs s s.heap) (hbl : o < s.heap.size) (hbA : ¬ Ah G o) (hgh : gh G = s.heap.size) (hend : ∀ (pc : Nat) (H : Heap) (ls : Array Slot), decode cL_law pc = .ok (.ireturn, 1) → W p l e room_1 s m args below meth c H [] 603072 7223402 Z (F0 m pc ls [.int 1])) : ∀ (K28 : Option Nat → Option Nat → Option Nat → Option Nat → Int32 → Nat → mmT → Prop) (kK28 : ∀ (r1 : Option Nat) (r2 : Option Nat) (r3 : Option Nat) (r4 : Option Nat) (x5 : Int32) (t28 : Nat) (μ : mmT) (H : Heap) (locs : List Loc) (ls : Array Slot), Mm G μ H → va_S (Ah G) s.heap H locs → lv_has ls 9 [(0, .ref o), (1, va_rf r1), (2, va_rf r2), (3, va_rf r3), (4, va_rf r4), (5, .int x5)] → K28 r1 r2 r3 r4 x5 t28 μ → W p l e room_1 s m args below meth c H locs (652 + 2 * t28) (7573 + 12 * t28) Z (F0 m 28 ls [])) (r1 : Option Nat) (r2 : Option Nat) (r3 : Option Nat) (r4 : Option Nat) (x5 : Int32) (t28 : Nat) (μ : mmT) (H : Heap) (locs : List Loc) (ls : Array Slot), Mm G μ H → va_S (Ah G) s.heap H locs → lv_has ls 9 [(0, .ref o), (1, va_rf r1), (2, va_rf r2), (3, va_rf r3), (4, va_rf r4), (5, .int x5)] → w_L_law_b629 G o L xs K28 r1 r2 r3 r4 x5 t28 μ → W p l e room_1 s m args below meth c H locs (654 + 2 * t28) (7585 + 12 * t28) Z (F0 m 629 ls []) := by
  intro K28 kK28 r1 r2 r3 r4 x5 t28 μ H locs ls hM hS hl h
  unfold w_L_law_b629 at h
  obtain ⟨ht28, h⟩ := h
  refine lv_goto (tgt := 2766) S.1 S.2.1 dL_law_629 (by decide) ?_
  refine W.widen (k := 654 + 2 * t28) (n := 7585 + 12 * t28) (by omega) (by omega) ?_
  exact cB_L_law_2766 hl0 S hG hX hbl hbA hgh hend K28 kK28 r1 r2 r3 r4 x5 t28 μ H locs ls hM hS (lv_sub hl [0, 1, 2, 3, 4, 5] rfl) h
set_option maxRecDepth 100000 in
set_option maxHeartbeats 4000000 in
theorem cB_L_law_576 {p : Program} {l : Launch} {e : Env} {s : State} {m : MethodId} {args : Array Value} {below : List Frame} {meth : Method} {c : Code} {Z : State → Prop} {G : mgT} {o L : Nat} {xs : Nat → Int32} (hl0 : l.stackTraces = false) (S : CallFix p m c cL_law 9 s args TT RL) (hG : GK G s s.heap) (hX : va_X o L xs s s.heap) (hbl : o < s.heap.size) (hbA : ¬ Ah G o) (hgh : gh G = s.heap.size) (hend : ∀ (pc : Nat) (H : Heap) (ls : Array Slot), decode cL_law pc = .ok (.ireturn, 1) → W p l e room_1 s m args below meth c H [] 603072 7223402 Z (F0 m pc ls [.int 1])) : ∀ (K28 : Option Nat → Option Nat → Option Nat → Option Nat → Int32 → Nat → mmT → Prop) (kK28 : ∀ (r1 : Option Nat) (r2 : Option Nat) (r3 : Option Nat) (r4 : Option Nat) (x5 : Int32) (t28 : Nat) (μ : mmT) (H : Heap) (locs : List Loc) (ls : Array Slot), Mm G μ H → va_S (Ah G) s.heap H locs → lv_has ls 9 [(0, .ref o), (1, va_rf r1), (2, va_rf r2), (3, va_rf r3), (4, va_rf r4), (5, .int x5)] → K28 r1 r2 r3 r4 x5 t28 μ → W p l e room_1 s m args below meth c H locs (652 + 2 * t28) (7573 + 12 * t28) Z (F0 m 28 ls [])) (r1 : Option Nat) (r2 : Option Nat) (r3 : Option Nat) (r4 : Option Nat) (x5 : Int32) (t28 : Nat) (μ : mmT) (H : Heap) (locs : List Loc) (ls : Array Slot), Mm G μ H → va_S (Ah G) s.heap H locs → lv_has ls 9 [(0, .ref o), (1, va_rf r1), (2, va_rf r2), (3, va_rf r3), (4, va_rf r4), (5, .int x5)] → w_L_law_b576 G o L xs K28 r1 r2 r3 r4 x5 t28 μ → W p l e room_1 s m args below meth c H locs (652 + 2 * t28) (7573 + 12 * t28) Z (F0 m 576 ls []) := by
  intro K28 kK28 r1 r2 r3 r4 x5 t28 μ H locs ls hM hS hl h
  unfold w_L_law_b576 at h
  obtain ⟨ht28, h⟩ := h
  refine mz_aload_n (x := r1) S.1 S.2.1 dL_law_576 rfl (lv_at hl 1 rfl) ?_
  refine lv_aload_n S.1 S.2.1 dL_law_577 rfl (lv_at hl 0 rfl) ?_
  refine lv_iload S.1 S.2.1 dL_law_578 (lv_at hl 5 rfl) ?_
  refine lv_iconst (v := (nI 1)) S.1 S.2.1 dL_law_580 (by decide) ?_
  refine lv_iadd S.1 S.2.1 dL_law_581 ?_
  obtain ⟨b101, h⟩ := h
  refine va_sld S.1 S.2.1 hX hbl hbA hS b101 dL_law_582 ?_
  refine mz_aload_n (x := r3) S.1 S.2.1 dL_law_583 rfl (lv_at hl 3 rfl) ?_
  refine mz_SH S hG hM hS (As := [va_rf r1, .int (xs (x5 + (nI 1)).toNatClampNeg), va_rf r3]) (rest := []) (c_L_setWind hl0 h) yh_L_setWind tw_1000 tw_1001 ⟨Nat.le_of_ble_eq_true rfl, Nat.le_of_ble_eq_true rfl⟩ ⟨(by show (652 + 2 * t28) + 1 ≤ 603072; omega), (by show (7573 + 12 * t28) + 6 ≤ 7223402; omega)⟩ rfl hl.1 rfl (Nat.le_of_ble_eq_true rfl) dL_law_584 (fun v9 μ103 H locs hp hM hS => ?_)
  obtain ⟨u102, rfl, h⟩ := hp
  refine W.cs (cells' := 653 + 2 * t28) (slots' := 7579 + 12 * t28) (by first | omega | (dsimp only; omega)) (by first | omega | (dsimp only; omega)) ?_
  refine lv_istore (lv' := [(6, .int u102), (0, .ref o), (1, va_rf r1), (2, va_rf r2), (3, va_rf r3), (4, va_rf r4), (5, .int x5)]) S.1 S.2.1 dL_law_587 hl (by decide) rfl (fun ls hl => ?_)
  refine mz_aload_n (x := r2) S.1 S.2.1 dL_law_589 rfl (lv_at hl 3 rfl) ?_
  refine lv_aload_n S.1 S.2.1 dL_law_590 rfl (lv_at hl 1 rfl) ?_
  refine lv_iload S.1 S.2.1 dL_law_591 (lv_at hl 6 rfl) ?_
  refine lv_iconst (v := (nI 1)) S.1 S.2.1 dL_law_593 (by decide) ?_
  refine lv_iadd S.1 S.2.1 dL_law_594 ?_
  obtain ⟨b104, h⟩ := h
  refine va_sld S.1 S.2.1 hX hbl hbA hS b104 dL_law_595 ?_
  obtain ⟨a105, e106, h⟩ := h
  refine mz_o1 e106 ?_
  obtain ⟨k107, h⟩ := h
  refine mz_V S hG hM hS cf_10 k107 (As := [.int (xs (x5 + (nI 1)).toNatClampNeg)]) (rest := []) (c_X11_setWind h) yf_X11_setWind tw_1638 tw_1639 tw_1640 ⟨Nat.le_of_ble_eq_true rfl, Nat.le_of_ble_eq_true rfl⟩ ⟨(by show (653 + 2 * t28) + 0 ≤ 603072; omega), (by show (7579 + 12 * t28) + 0 ≤ 7223402; omega)⟩ rfl hl.1 rfl (Nat.le_of_ble_eq_true rfl) dL_law_596 (fun v9 μ109 H locs hp hM hS => ?_)
  obtain ⟨u108, rfl, h⟩ := hp
  refine W.cs (cells' := 653 + 2 * t28) (slots' := 7579 + 12 * t28) (by first | omega | (dsimp only; omega)) (by first | omega | (dsimp only; omega)) ?_
  refine lv_istore (lv' := [(7, .int u108), (6, .int u102), (0, .ref o), (1, va_rf r1), (2, va_rf r2), (3, va_rf r3), (4, va_rf r4), (5, .int x5)]) S.1 S.2.1 dL_law_599 hl (by decide) rfl (fun ls hl => ?_)
  refine mz_aload_n (x := r2) S.1 S.2.1 dL_law_601 rfl (lv_at hl 4 rfl) ?_
  refine mz_o0 e106 ?_
  obtain ⟨k110, h⟩ := h
  refine mz_V S hG hM hS cf_10 k110 (As := []) (rest := []) (c_X11_thrown h) yf_X11_thrown tw_1543 tw_1544 tw_1545 ⟨Nat.le_of_ble_eq_true rfl, Nat.le_of_ble_eq_true rfl⟩ ⟨(by show (653 + 2 * t28) + 0 ≤ 603072; omega), (by show (7579 + 12 * t28) + 0 ≤ 7223402; omega)⟩ rfl hl.1 rfl (Nat.le_of_ble_eq_true rfl) dL_law_602 (fun v9 μ9 H locs hp hM hS => ?_)
  obtain ⟨u111, rfl, e9, h⟩ := hp
  rw [e9] at hM
  refine W.cs (cells' := 653 + 2 * t28) (slots' := 7579 + 12 * t28) (by first | omega | (dsimp only; omega)) (by first | omega | (dsimp only; omega)) ?_
  refine lv_iload S.1 S.2.1 dL_law_605 (lv_at hl 1 rfl) ?_
  refine lv_icmp_eq (tgt := 612) S.1 S.2.1 dL_law_607 (by decide) (fun c112 => ?_) (fun c112 => ?_)
  · have h := h.1 c112
    refine lv_iload S.1 S.2.1 dL_law_612 (lv_at hl 1 rfl) ?_
    refine lv_if_ne (tgt := 629) S.1 S.2.1 dL_law_614 (by decide) (fun c113 => ?_) (fun c113 => ?_)
    · have h := h.1 c113
      refine W.widen (k := 654 + 2 * t28) (n := 7585 + 12 * t28) (by omega) (by omega) ?_
      exact cB_L_law_629 hl0 S hG hX hbl hbA hgh hend K28 kK28 r1 r2 r3 r4 x5 t28 μ109 H locs ls hM hS (lv_sub hl [2, 3, 4, 5, 6, 7] rfl) h
    · have h := h.2 c113
      refine mz_aload_n (x := r3) S.1 S.2.1 dL_law_617 rfl (lv_at hl 5 rfl) ?_
      refine lv_iconst (v := (nI 0)) S.1 S.2.1 dL_law_618 (by decide) ?_
      obtain ⟨a114, e115, h⟩ := h
      refine mz_o1 e115 ?_
      obtain ⟨k116, h⟩ := h
      obtain ⟨b117, h⟩ := h
      refine mz_lald S hG hM dL_law_619 k116 b117 ?_
      refine lv_iload S.1 S.2.1 dL_law_620 (lv_at hl 0 rfl) ?_
      refine lv_i2l S.1 S.2.1 dL_law_622 rfl ?_
      refine W.lcmp S.1 S.2.1 dL_law_623 ?_
      refine lv_if_eq (tgt := 629) S.1 S.2.1 dL_law_624 (by decide) (fun c118 => ?_) (fun c118 => ?_)
      · have h := h.1 c118
        refine W.widen (k := 654 + 2 * t28) (n := 7585 + 12 * t28) (by omega) (by omega) ?_
        exact cB_L_law_629 hl0 S hG hX hbl hbA hgh hend K28 kK28 r1 r2 r3 r4 x5 t28 μ109 H locs ls hM hS (lv_sub hl [2, 3, 4, 5, 6, 7] rfl) h
      · have h := h.2 c118
        refine lv_iconst (v := (nI 0)) S.1 S.2.1 dL_law_627 (by decide) ?_
        exact h.elim
  · have h := h.2 c112
    refine lv_iconst (v := (nI 0)) S.1 S.2.1 dL_law_610 (by decide) ?_
    exact h.elim
set_option maxRecDepth 100000 in
set_option maxHeartbeats 4000000 in
theorem cB_L_law_685 {p : Program} {l : Launch} {e : Env} {s : State} {m : MethodId} {args : Array Value} {below : List Frame} {meth : Method} {c : Code} {Z : State → Prop} {G : mgT} {o L : Nat} {xs : Nat → Int32} (hl0 : l.stackTraces = false) (S : CallFix p m c cL_law 9 s args TT RL) (hG : GK G s s.heap) (hX : va_X o L xs s s.heap) (hbl : o < s.heap.size) (hbA : ¬ Ah G o) (hgh : gh G = s.heap.size) (hend : ∀ (pc : Nat) (H : Heap) (ls : Array Slot), decode cL_law pc = .ok (.ireturn, 1) → W p l e room_1 s m args below meth c H [] 603072 7223402 Z (F0 m pc ls [.int 1])) : ∀ (K28 : Option Nat → Option Nat → Option Nat → Option Nat → Int32 → Nat → mmT → Prop) (kK28 : ∀ (r1 : Option Nat) (r2 : Option Nat) (r3 : Option Nat) (r4 : Option Nat) (x5 : Int32) (t28 : Nat) (μ : mmT) (H : Heap) (locs : List Loc) (ls : Array Slot), Mm G μ H → va_S (Ah G) s.heap H locs → lv_has ls 9 [(0, .ref o), (1, va_rf r1), (2, va_rf r2), (3, va_rf r3), (4, va_rf r4), (5, .int x5)] → K28 r1 r2 r3 r4 x5 t28 μ → W p l e room_1 s m args below meth c H locs (652 + 2 * t28) (7573 + 12 * t28) Z (F0 m 28 ls [])) (r1 : Option Nat) (r2 : Option Nat) (r3 : Option Nat) (r4 : Option Nat) (x5 : Int32) (t28 : Nat) (μ : mmT) (H : Heap) (locs : List Loc) (ls : Array Slot), Mm G μ H → va_S (Ah G) s.heap H locs → lv_has ls 9 [(0, .ref o), (1, va_rf r1), (2, va_rf r2), (3, va_rf r3), (4, va_rf r4), (5, .int x5)] → w_L_law_b685 G o L xs K28 r1 r2 r3 r4 x5 t28 μ → W p l e room_1 s m args below meth c H locs (654 + 2 * t28) (7585 + 12 * t28) Z (F0 m 685 ls []) := by
  intro K28 kK28 r1 r2 r3 r4 x5 t28 μ H locs ls hM hS hl h
  unfold w_L_law_b685 at h
  obtain ⟨ht28, h⟩ := h
  refine lv_goto (tgt := 2766) S.1 S.2.1 dL_law_685 (by decide) ?_
  refine W.widen (k := 654 + 2 * t28) (n := 7585 + 12 * t28) (by omega) (by omega) ?_
  exact cB_L_law_2766 hl0 S hG hX hbl hbA hgh hend K28 kK28 r1 r2 r3 r4 x5 t28 μ H locs ls hM hS (lv_sub hl [0, 1, 2, 3, 4, 5] rfl) h
set_option maxRecDepth 100000 in
set_option maxHeartbeats 4000000 in
theorem cB_L_law_632 {p : Program} {l : Launch} {e : Env} {s : State} {m : MethodId} {args : Array Value} {below : List Frame} {meth : Method} {c : Code} {Z : State → Prop} {G : mgT} {o L : Nat} {xs : Nat → Int32} (hl0 : l.stackTraces = false) (S : CallFix p m c cL_law 9 s args TT RL) (hG : GK G s s.heap) (hX : va_X o L xs s s.heap) (hbl : o < s.heap.size) (hbA : ¬ Ah G o) (hgh : gh G = s.heap.size) (hend : ∀ (pc : Nat) (H : Heap) (ls : Array Slot), decode cL_law pc = .ok (.ireturn, 1) → W p l e room_1 s m args below meth c H [] 603072 7223402 Z (F0 m pc ls [.int 1])) : ∀ (K28 : Option Nat → Option Nat → Option Nat → Option Nat → Int32 → Nat → mmT → Prop) (kK28 : ∀ (r1 : Option Nat) (r2 : Option Nat) (r3 : Option Nat) (r4 : Option Nat) (x5 : Int32) (t28 : Nat) (μ : mmT) (H : Heap) (locs : List Loc) (ls : Array Slot), Mm G μ H → va_S (Ah G) s.heap H locs → lv_has ls 9 [(0, .ref o), (1, va_rf r1), (2, va_rf r2), (3, va_rf r3), (4, va_rf r4), (5, .int x5)] → K28 r1 r2 r3 r4 x5 t28 μ → W p l e room_1 s m args below meth c H locs (652 + 2 * t28) (7573 + 12 * t28) Z (F0 m 28 ls [])) (r1 : Option Nat) (r2 : Option Nat) (r3 : Option Nat) (r4 : Option Nat) (x5 : Int32) (t28 : Nat) (μ : mmT) (H : Heap) (locs : List Loc) (ls : Array Slot), Mm G μ H → va_S (Ah G) s.heap H locs → lv_has ls 9 [(0, .ref o), (1, va_rf r1), (2, va_rf r2), (3, va_rf r3), (4, va_rf r4), (5, .int x5)] → w_L_law_b632 G o L xs K28 r1 r2 r3 r4 x5 t28 μ → W p l e room_1 s m args below meth c H locs (652 + 2 * t28) (7573 + 12 * t28) Z (F0 m 632 ls []) := by
  intro K28 kK28 r1 r2 r3 r4 x5 t28 μ H locs ls hM hS hl h
  unfold w_L_law_b632 at h
  obtain ⟨ht28, h⟩ := h
  refine mz_aload_n (x := r1) S.1 S.2.1 dL_law_632 rfl (lv_at hl 1 rfl) ?_
  refine lv_aload_n S.1 S.2.1 dL_law_633 rfl (lv_at hl 0 rfl) ?_
  refine lv_iload S.1 S.2.1 dL_law_634 (lv_at hl 5 rfl) ?_
  refine lv_iconst (v := (nI 1)) S.1 S.2.1 dL_law_636 (by decide) ?_
  refine lv_iadd S.1 S.2.1 dL_law_637 ?_
  obtain ⟨b119, h⟩ := h
  refine va_sld S.1 S.2.1 hX hbl hbA hS b119 dL_law_638 ?_
  refine mz_aload_n (x := r3) S.1 S.2.1 dL_law_639 rfl (lv_at hl 3 rfl) ?_
  refine mz_SH S hG hM hS (As := [va_rf r1, .int (xs (x5 + (nI 1)).toNatClampNeg), va_rf r3]) (rest := []) (c_L_forget hl0 h) yh_L_forget tw_1011 tw_1012 ⟨Nat.le_of_ble_eq_true rfl, Nat.le_of_ble_eq_true rfl⟩ ⟨(by show (652 + 2 * t28) + 1 ≤ 603072; omega), (by show (7573 + 12 * t28) + 6 ≤ 7223402; omega)⟩ rfl hl.1 rfl (Nat.le_of_ble_eq_true rfl) dL_law_640 (fun v9 μ121 H locs hp hM hS => ?_)
  obtain ⟨u120, rfl, h⟩ := hp
  refine W.cs (cells' := 653 + 2 * t28) (slots' := 7579 + 12 * t28) (by first | omega | (dsimp only; omega)) (by first | omega | (dsimp only; omega)) ?_
  refine lv_istore (lv' := [(6, .int u120), (0, .ref o), (1, va_rf r1), (2, va_rf r2), (3, va_rf r3), (4, va_rf r4), (5, .int x5)]) S.1 S.2.1 dL_law_643 hl (by decide) rfl (fun ls hl => ?_)
  refine mz_aload_n (x := r2) S.1 S.2.1 dL_law_645 rfl (lv_at hl 3 rfl) ?_
  refine lv_aload_n S.1 S.2.1 dL_law_646 rfl (lv_at hl 1 rfl) ?_
  refine lv_iload S.1 S.2.1 dL_law_647 (lv_at hl 6 rfl) ?_
  refine lv_iconst (v := (nI 1)) S.1 S.2.1 dL_law_649 (by decide) ?_
  refine lv_iadd S.1 S.2.1 dL_law_650 ?_
  obtain ⟨b122, h⟩ := h
  refine va_sld S.1 S.2.1 hX hbl hbA hS b122 dL_law_651 ?_
  obtain ⟨a123, e124, h⟩ := h
  refine mz_o1 e124 ?_
  obtain ⟨k125, h⟩ := h
  refine mz_V S hG hM hS cf_10 k125 (As := [.int (xs (x5 + (nI 1)).toNatClampNeg)]) (rest := []) (c_X11_forget h) yf_X11_forget tw_1646 tw_1647 tw_1648 ⟨Nat.le_of_ble_eq_true rfl, Nat.le_of_ble_eq_true rfl⟩ ⟨(by show (653 + 2 * t28) + 0 ≤ 603072; omega), (by show (7579 + 12 * t28) + 0 ≤ 7223402; omega)⟩ rfl hl.1 rfl (Nat.le_of_ble_eq_true rfl) dL_law_652 (fun v9 μ127 H locs hp hM hS => ?_)
  obtain ⟨u126, rfl, h⟩ := hp
  refine W.cs (cells' := 653 + 2 * t28) (slots' := 7579 + 12 * t28) (by first | omega | (dsimp only; omega)) (by first | omega | (dsimp only; omega)) ?_
  refine lv_istore (lv' := [(7, .int u126), (6, .int u120), (0, .ref o), (1, va_rf r1), (2, va_rf r2), (3, va_rf r3), (4, va_rf r4), (5, .int x5)]) S.1 S.2.1 dL_law_655 hl (by decide) rfl (fun ls hl => ?_)
  refine mz_aload_n (x := r2) S.1 S.2.1 dL_law_657 rfl (lv_at hl 4 rfl) ?_
  refine mz_o0 e124 ?_
  obtain ⟨k128, h⟩ := h
  refine mz_V S hG hM hS cf_10 k128 (As := []) (rest := []) (c_X11_thrown h) yf_X11_thrown tw_1543 tw_1544 tw_1545 ⟨Nat.le_of_ble_eq_true rfl, Nat.le_of_ble_eq_true rfl⟩ ⟨(by show (653 + 2 * t28) + 0 ≤ 603072; omega), (by show (7579 + 12 * t28) + 0 ≤ 7223402; omega)⟩ rfl hl.1 rfl (Nat.le_of_ble_eq_true rfl) dL_law_658 (fun v9 μ9 H locs hp hM hS => ?_)
  obtain ⟨u129, rfl, e9, h⟩ := hp
  rw [e9] at hM
  refine W.cs (cells' := 653 + 2 * t28) (slots' := 7579 + 12 * t28) (by first | omega | (dsimp only; omega)) (by first | omega | (dsimp only; omega)) ?_
  refine lv_iload S.1 S.2.1 dL_law_661 (lv_at hl 1 rfl) ?_
  refine lv_icmp_eq (tgt := 668) S.1 S.2.1 dL_law_663 (by decide) (fun c130 => ?_) (fun c130 => ?_)
  · have h := h.1 c130
    refine lv_iload S.1 S.2.1 dL_law_668 (lv_at hl 1 rfl) ?_
    refine lv_if_ne (tgt := 685) S.1 S.2.1 dL_law_670 (by decide) (fun c131 => ?_) (fun c131 => ?_)
    · have h := h.1 c131
      refine W.widen (k := 654 + 2 * t28) (n := 7585 + 12 * t28) (by omega) (by omega) ?_
      exact cB_L_law_685 hl0 S hG hX hbl hbA hgh hend K28 kK28 r1 r2 r3 r4 x5 t28 μ127 H locs ls hM hS (lv_sub hl [2, 3, 4, 5, 6, 7] rfl) h
    · have h := h.2 c131
      refine mz_aload_n (x := r3) S.1 S.2.1 dL_law_673 rfl (lv_at hl 5 rfl) ?_
      refine lv_iconst (v := (nI 0)) S.1 S.2.1 dL_law_674 (by decide) ?_
      obtain ⟨a132, e133, h⟩ := h
      refine mz_o1 e133 ?_
      obtain ⟨k134, h⟩ := h
      obtain ⟨b135, h⟩ := h
      refine mz_lald S hG hM dL_law_675 k134 b135 ?_
      refine lv_iload S.1 S.2.1 dL_law_676 (lv_at hl 0 rfl) ?_
      refine lv_i2l S.1 S.2.1 dL_law_678 rfl ?_
      refine W.lcmp S.1 S.2.1 dL_law_679 ?_
      refine lv_if_eq (tgt := 685) S.1 S.2.1 dL_law_680 (by decide) (fun c136 => ?_) (fun c136 => ?_)
      · have h := h.1 c136
        refine W.widen (k := 654 + 2 * t28) (n := 7585 + 12 * t28) (by omega) (by omega) ?_
        exact cB_L_law_685 hl0 S hG hX hbl hbA hgh hend K28 kK28 r1 r2 r3 r4 x5 t28 μ127 H locs ls hM hS (lv_sub hl [2, 3, 4, 5, 6, 7] rfl) h
      · have h := h.2 c136
        refine lv_iconst (v := (nI 0)) S.1 S.2.1 dL_law_683 (by decide) ?_
        exact h.elim
  · have h := h.2 c130
    refine lv_iconst (v := (nI 0)) S.1 S.2.1 dL_law_666 (by decide) ?_
    exact h.elim
set_option maxRecDepth 100000 in
set_option maxHeartbeats 4000000 in
theorem cB_L_law_741 {p : Program} {l : Launch} {e : Env} {s : State} {m : MethodId} {args : Array Value} {below : List Frame} {meth : Method} {c : Code} {Z : State → Prop} {G : mgT} {o L : Nat} {xs : Nat → Int32} (hl0 : l.stackTraces = false) (S : CallFix p m c cL_law 9 s args TT RL) (hG : GK G s s.heap) (hX : va_X o L xs s s.heap) (hbl : o < s.heap.size) (hbA : ¬ Ah G o) (hgh : gh G = s.heap.size) (hend : ∀ (pc : Nat) (H : Heap) (ls : Array Slot), decode cL_law pc = .ok (.ireturn, 1) → W p l e room_1 s m args below meth c H [] 603072 7223402 Z (F0 m pc ls [.int 1])) : ∀ (K28 : Option Nat → Option Nat → Option Nat → Option Nat → Int32 → Nat → mmT → Prop) (kK28 : ∀ (r1 : Option Nat) (r2 : Option Nat) (r3 : Option Nat) (r4 : Option Nat) (x5 : Int32) (t28 : Nat) (μ : mmT) (H : Heap) (locs : List Loc) (ls : Array Slot), Mm G μ H → va_S (Ah G) s.heap H locs → lv_has ls 9 [(0, .ref o), (1, va_rf r1), (2, va_rf r2), (3, va_rf r3), (4, va_rf r4), (5, .int x5)] → K28 r1 r2 r3 r4 x5 t28 μ → W p l e room_1 s m args below meth c H locs (652 + 2 * t28) (7573 + 12 * t28) Z (F0 m 28 ls [])) (r1 : Option Nat) (r2 : Option Nat) (r3 : Option Nat) (r4 : Option Nat) (x5 : Int32) (t28 : Nat) (μ : mmT) (H : Heap) (locs : List Loc) (ls : Array Slot), Mm G μ H → va_S (Ah G) s.heap H locs → lv_has ls 9 [(0, .ref o), (1, va_rf r1), (2, va_rf r2), (3, va_rf r3), (4, va_rf r4), (5, .int x5)] → w_L_law_b741 G o L xs K28 r1 r2 r3 r4 x5 t28 μ → W p l e room_1 s m args below meth c H locs (654 + 2 * t28) (7585 + 12 * t28) Z (F0 m 741 ls []) := by
  intro K28 kK28 r1 r2 r3 r4 x5 t28 μ H locs ls hM hS hl h
  unfold w_L_law_b741 at h
  obtain ⟨ht28, h⟩ := h
  refine lv_goto (tgt := 2766) S.1 S.2.1 dL_law_741 (by decide) ?_
  refine W.widen (k := 654 + 2 * t28) (n := 7585 + 12 * t28) (by omega) (by omega) ?_
  exact cB_L_law_2766 hl0 S hG hX hbl hbA hgh hend K28 kK28 r1 r2 r3 r4 x5 t28 μ H locs ls hM hS (lv_sub hl [0, 1, 2, 3, 4, 5] rfl) h
set_option maxRecDepth 100000 in
set_option maxHeartbeats 4000000 in
theorem cB_L_law_688 {p : Program} {l : Launch} {e : Env} {s : State} {m : MethodId} {args : Array Value} {below : List Frame} {meth : Method} {c : Code} {Z : State → Prop} {G : mgT} {o L : Nat} {xs : Nat → Int32} (hl0 : l.stackTraces = false) (S : CallFix p m c cL_law 9 s args TT RL) (hG : GK G s s.heap) (hX : va_X o L xs s s.heap) (hbl : o < s.heap.size) (hbA : ¬ Ah G o) (hgh : gh G = s.heap.size) (hend : ∀ (pc : Nat) (H : Heap) (ls : Array Slot), decode cL_law pc = .ok (.ireturn, 1) → W p l e room_1 s m args below meth c H [] 603072 7223402 Z (F0 m pc ls [.int 1])) : ∀ (K28 : Option Nat → Option Nat → Option Nat → Option Nat → Int32 → Nat → mmT → Prop) (kK28 : ∀ (r1 : Option Nat) (r2 : Option Nat) (r3 : Option Nat) (r4 : Option Nat) (x5 : Int32) (t28 : Nat) (μ : mmT) (H : Heap) (locs : List Loc) (ls : Array Slot), Mm G μ H → va_S (Ah G) s.heap H locs → lv_has ls 9 [(0, .ref o), (1, va_rf r1), (2, va_rf r2), (3, va_rf r3), (4, va_rf r4), (5, .int x5)] → K28 r1 r2 r3 r4 x5 t28 μ → W p l e room_1 s m args below meth c H locs (652 + 2 * t28) (7573 + 12 * t28) Z (F0 m 28 ls [])) (r1 : Option Nat) (r2 : Option Nat) (r3 : Option Nat) (r4 : Option Nat) (x5 : Int32) (t28 : Nat) (μ : mmT) (H : Heap) (locs : List Loc) (ls : Array Slot), Mm G μ H → va_S (Ah G) s.heap H locs → lv_has ls 9 [(0, .ref o), (1, va_rf r1), (2, va_rf r2), (3, va_rf r3), (4, va_rf r4), (5, .int x5)] → w_L_law_b688 G o L xs K28 r1 r2 r3 r4 x5 t28 μ → W p l e room_1 s m args below meth c H locs (652 + 2 * t28) (7573 + 12 * t28) Z (F0 m 688 ls []) := by
  intro K28 kK28 r1 r2 r3 r4 x5 t28 μ H locs ls hM hS hl h
  unfold w_L_law_b688 at h
  obtain ⟨ht28, h⟩ := h
  refine mz_aload_n (x := r1) S.1 S.2.1 dL_law_688 rfl (lv_at hl 1 rfl) ?_
  refine lv_aload_n S.1 S.2.1 dL_law_689 rfl (lv_at hl 0 rfl) ?_
  refine lv_iload S.1 S.2.1 dL_law_690 (lv_at hl 5 rfl) ?_
  refine lv_iconst (v := (nI 1)) S.1 S.2.1 dL_law_692 (by decide) ?_
  refine lv_iadd S.1 S.2.1 dL_law_693 ?_
  obtain ⟨b137, h⟩ := h
  refine va_sld S.1 S.2.1 hX hbl hbA hS b137 dL_law_694 ?_
  refine mz_aload_n (x := r3) S.1 S.2.1 dL_law_695 rfl (lv_at hl 3 rfl) ?_
  refine mz_SH S hG hM hS (As := [va_rf r1, .int (xs (x5 + (nI 1)).toNatClampNeg), va_rf r3]) (rest := []) (c_L_advance hl0 h) yh_L_advance tw_1022 tw_1023 ⟨Nat.le_of_ble_eq_true rfl, Nat.le_of_ble_eq_true rfl⟩ ⟨(by show (652 + 2 * t28) + 1 ≤ 603072; omega), (by show (7573 + 12 * t28) + 6 ≤ 7223402; omega)⟩ rfl hl.1 rfl (Nat.le_of_ble_eq_true rfl) dL_law_696 (fun v9 μ139 H locs hp hM hS => ?_)
  obtain ⟨u138, rfl, h⟩ := hp
  refine W.cs (cells' := 653 + 2 * t28) (slots' := 7579 + 12 * t28) (by first | omega | (dsimp only; omega)) (by first | omega | (dsimp only; omega)) ?_
  refine lv_istore (lv' := [(6, .int u138), (0, .ref o), (1, va_rf r1), (2, va_rf r2), (3, va_rf r3), (4, va_rf r4), (5, .int x5)]) S.1 S.2.1 dL_law_699 hl (by decide) rfl (fun ls hl => ?_)
  refine mz_aload_n (x := r2) S.1 S.2.1 dL_law_701 rfl (lv_at hl 3 rfl) ?_
  refine lv_aload_n S.1 S.2.1 dL_law_702 rfl (lv_at hl 1 rfl) ?_
  refine lv_iload S.1 S.2.1 dL_law_703 (lv_at hl 6 rfl) ?_
  refine lv_iconst (v := (nI 1)) S.1 S.2.1 dL_law_705 (by decide) ?_
  refine lv_iadd S.1 S.2.1 dL_law_706 ?_
  obtain ⟨b140, h⟩ := h
  refine va_sld S.1 S.2.1 hX hbl hbA hS b140 dL_law_707 ?_
  obtain ⟨a141, e142, h⟩ := h
  refine mz_o1 e142 ?_
  obtain ⟨k143, h⟩ := h
  refine mz_V S hG hM hS cf_10 k143 (As := [.int (xs (x5 + (nI 1)).toNatClampNeg)]) (rest := []) (c_X11_advance h) yf_X11_advance tw_1654 tw_1655 tw_1656 ⟨Nat.le_of_ble_eq_true rfl, Nat.le_of_ble_eq_true rfl⟩ ⟨(by show (653 + 2 * t28) + 0 ≤ 603072; omega), (by show (7579 + 12 * t28) + 0 ≤ 7223402; omega)⟩ rfl hl.1 rfl (Nat.le_of_ble_eq_true rfl) dL_law_708 (fun v9 μ145 H locs hp hM hS => ?_)
  obtain ⟨u144, rfl, h⟩ := hp
  refine W.cs (cells' := 653 + 2 * t28) (slots' := 7579 + 12 * t28) (by first | omega | (dsimp only; omega)) (by first | omega | (dsimp only; omega)) ?_
  refine lv_istore (lv' := [(7, .int u144), (6, .int u138), (0, .ref o), (1, va_rf r1), (2, va_rf r2), (3, va_rf r3), (4, va_rf r4), (5, .int x5)]) S.1 S.2.1 dL_law_711 hl (by decide) rfl (fun ls hl => ?_)
  refine mz_aload_n (x := r2) S.1 S.2.1 dL_law_713 rfl (lv_at hl 4 rfl) ?_
  refine mz_o0 e142 ?_
  obtain ⟨k146, h⟩ := h
  refine mz_V S hG hM hS cf_10 k146 (As := []) (rest := []) (c_X11_thrown h) yf_X11_thrown tw_1543 tw_1544 tw_1545 ⟨Nat.le_of_ble_eq_true rfl, Nat.le_of_ble_eq_true rfl⟩ ⟨(by show (653 + 2 * t28) + 0 ≤ 603072; omega), (by show (7579 + 12 * t28) + 0 ≤ 7223402; omega)⟩ rfl hl.1 rfl (Nat.le_of_ble_eq_true rfl) dL_law_714 (fun v9 μ9 H locs hp hM hS => ?_)
  obtain ⟨u147, rfl, e9, h⟩ := hp
  rw [e9] at hM
  refine W.cs (cells' := 653 + 2 * t28) (slots' := 7579 + 12 * t28) (by first | omega | (dsimp only; omega)) (by first | omega | (dsimp only; omega)) ?_
  refine lv_iload S.1 S.2.1 dL_law_717 (lv_at hl 1 rfl) ?_
  refine lv_icmp_eq (tgt := 724) S.1 S.2.1 dL_law_719 (by decide) (fun c148 => ?_) (fun c148 => ?_)
  · have h := h.1 c148
    refine lv_iload S.1 S.2.1 dL_law_724 (lv_at hl 1 rfl) ?_
    refine lv_if_ne (tgt := 741) S.1 S.2.1 dL_law_726 (by decide) (fun c149 => ?_) (fun c149 => ?_)
    · have h := h.1 c149
      refine W.widen (k := 654 + 2 * t28) (n := 7585 + 12 * t28) (by omega) (by omega) ?_
      exact cB_L_law_741 hl0 S hG hX hbl hbA hgh hend K28 kK28 r1 r2 r3 r4 x5 t28 μ145 H locs ls hM hS (lv_sub hl [2, 3, 4, 5, 6, 7] rfl) h
    · have h := h.2 c149
      refine mz_aload_n (x := r3) S.1 S.2.1 dL_law_729 rfl (lv_at hl 5 rfl) ?_
      refine lv_iconst (v := (nI 0)) S.1 S.2.1 dL_law_730 (by decide) ?_
      obtain ⟨a150, e151, h⟩ := h
      refine mz_o1 e151 ?_
      obtain ⟨k152, h⟩ := h
      obtain ⟨b153, h⟩ := h
      refine mz_lald S hG hM dL_law_731 k152 b153 ?_
      refine lv_iload S.1 S.2.1 dL_law_732 (lv_at hl 0 rfl) ?_
      refine lv_i2l S.1 S.2.1 dL_law_734 rfl ?_
      refine W.lcmp S.1 S.2.1 dL_law_735 ?_
      refine lv_if_eq (tgt := 741) S.1 S.2.1 dL_law_736 (by decide) (fun c154 => ?_) (fun c154 => ?_)
      · have h := h.1 c154
        refine W.widen (k := 654 + 2 * t28) (n := 7585 + 12 * t28) (by omega) (by omega) ?_
        exact cB_L_law_741 hl0 S hG hX hbl hbA hgh hend K28 kK28 r1 r2 r3 r4 x5 t28 μ145 H locs ls hM hS (lv_sub hl [2, 3, 4, 5, 6, 7] rfl) h
      · have h := h.2 c154
        refine lv_iconst (v := (nI 0)) S.1 S.2.1 dL_law_739 (by decide) ?_
        exact h.elim
  · have h := h.2 c148
    refine lv_iconst (v := (nI 0)) S.1 S.2.1 dL_law_722 (by decide) ?_
    exact h.elim
set_option maxRecDepth 100000 in
set_option maxHeartbeats 4000000 in
theorem cB_L_law_744 {p : Program} {l : Launch} {e : Env} {s : State} {m : MethodId} {args : Array Value} {below : List Frame} {meth : Method} {c : Code} {Z : State → Prop} {G : mgT} {o L : Nat} {xs : Nat → Int32} (hl0 : l.stackTraces = false) (S : CallFix p m c cL_law 9 s args TT RL) (hG : GK G s s.heap) (hX : va_X o L xs s s.heap) (hbl : o < s.heap.size) (hbA : ¬ Ah G o) (hgh : gh G = s.heap.size) (hend : ∀ (pc : Nat) (H : Heap) (ls : Array Slot), decode cL_law pc = .ok (.ireturn, 1) → W p l e room_1 s m args below meth c H [] 603072 7223402 Z (F0 m pc ls [.int 1])) : ∀ (K28 : Option Nat → Option Nat → Option Nat → Option Nat → Int32 → Nat → mmT → Prop) (kK28 : ∀ (r1 : Option Nat) (r2 : Option Nat) (r3 : Option Nat) (r4 : Option Nat) (x5 : Int32) (t28 : Nat) (μ : mmT) (H : Heap) (locs : List Loc) (ls : Array Slot), Mm G μ H → va_S (Ah G) s.heap H locs → lv_has ls 9 [(0, .ref o), (1, va_rf r1), (2, va_rf r2), (3, va_rf r3), (4, va_rf r4), (5, .int x5)] → K28 r1 r2 r3 r4 x5 t28 μ → W p l e room_1 s m args below meth c H locs (652 + 2 * t28) (7573 + 12 * t28) Z (F0 m 28 ls [])) (r1 : Option Nat) (r2 : Option Nat) (r3 : Option Nat) (r4 : Option Nat) (x5 : Int32) (t28 : Nat) (μ : mmT) (H : Heap) (locs : List Loc) (ls : Array Slot), Mm G μ H → va_S (Ah G) s.heap H locs → lv_has ls 9 [(0, .ref o), (1, va_rf r1), (2, va_rf r2), (3, va_rf r3), (4, va_rf r4), (5, .int x5)] → w_L_law_b744 G o L xs K28 r1 r2 r3 r4 x5 t28 μ → W p l e room_1 s m args below meth c H locs (652 + 2 * t28) (7573 + 12 * t28) Z (F0 m 744 ls []) := by
  intro K28 kK28 r1 r2 r3 r4 x5 t28 μ H locs ls hM hS hl h
  unfold w_L_law_b744 at h
  obtain ⟨ht28, h⟩ := h
  refine mz_aload_n (x := r1) S.1 S.2.1 dL_law_744 rfl (lv_at hl 1 rfl) ?_
  obtain ⟨a155, e156, h⟩ := h
  refine mz_o0 e156 ?_
  obtain ⟨k157, h⟩ := h
  refine mz_V S hG hM hS cf_9 k157 (As := []) (rest := []) (c_X10_nestCount h) yf_X10_nestCount tw_378 tw_379 tw_380 ⟨Nat.le_of_ble_eq_true rfl, Nat.le_of_ble_eq_true rfl⟩ ⟨(by show (652 + 2 * t28) + 0 ≤ 603072; omega), (by show (7573 + 12 * t28) + 0 ≤ 7223402; omega)⟩ rfl hl.1 rfl (Nat.le_of_ble_eq_true rfl) dL_law_745 (fun v9 μ9 H locs hp hM hS => ?_)
  obtain ⟨u158, rfl, e9, h⟩ := hp
  rw [e9] at hM
  refine W.cs (cells' := 652 + 2 * t28) (slots' := 7573 + 12 * t28) (by first | omega | (dsimp only; omega)) (by first | omega | (dsimp only; omega)) ?_
  refine mz_aload_n (x := r2) S.1 S.2.1 dL_law_748 rfl (lv_at hl 2 rfl) ?_
  obtain ⟨a159, e160, h⟩ := h
  refine mz_o0 e160 ?_
  obtain ⟨k161, h⟩ := h
  refine mz_V S hG hM hS cf_10 k161 (As := []) (rest := [.int u158]) (c_X11_nestCount h) yf_X11_nestCount tw_1686 tw_1687 tw_1688 ⟨Nat.le_of_ble_eq_true rfl, Nat.le_of_ble_eq_true rfl⟩ ⟨(by show (652 + 2 * t28) + 0 ≤ 603072; omega), (by show (7573 + 12 * t28) + 0 ≤ 7223402; omega)⟩ rfl hl.1 rfl (Nat.le_of_ble_eq_true rfl) dL_law_749 (fun v9 μ163 H locs hp hM hS => ?_)
  obtain ⟨u162, rfl, h⟩ := hp
  refine W.cs (cells' := 652 + 2 * t28) (slots' := 7573 + 12 * t28) (by first | omega | (dsimp only; omega)) (by first | omega | (dsimp only; omega)) ?_
  refine lv_icmp_eq (tgt := 2766) S.1 S.2.1 dL_law_752 (by decide) (fun c164 => ?_) (fun c164 => ?_)
  · have h := h.1 c164
    refine W.widen (k := 654 + 2 * t28) (n := 7585 + 12 * t28) (by omega) (by omega) ?_
    exact cB_L_law_2766 hl0 S hG hX hbl hbA hgh hend K28 kK28 r1 r2 r3 r4 x5 t28 μ163 H locs ls hM hS (lv_sub hl [0, 1, 2, 3, 4, 5] rfl) h
  · have h := h.2 c164
    refine lv_iconst (v := (nI 0)) S.1 S.2.1 dL_law_755 (by decide) ?_
    exact h.elim
set_option maxRecDepth 100000 in
set_option maxHeartbeats 4000000 in
theorem cB_L_law_810 {p : Program} {l : Launch} {e : Env} {s : State} {m : MethodId} {args : Array Value} {below : List Frame} {meth : Method} {c : Code} {Z : State → Prop} {G : mgT} {o L : Nat} {xs : Nat → Int32} (hl0 : l.stackTraces = false) (S : CallFix p m c cL_law 9 s args TT RL) (hG : GK G s s.heap) (hX : va_X o L xs s s.heap) (hbl : o < s.heap.size) (hbA : ¬ Ah G o) (hgh : gh G = s.heap.size) (hend : ∀ (pc : Nat) (H : Heap) (ls : Array Slot), decode cL_law pc = .ok (.ireturn, 1) → W p l e room_1 s m args below meth c H [] 603072 7223402 Z (F0 m pc ls [.int 1])) : ∀ (K28 : Option Nat → Option Nat → Option Nat → Option Nat → Int32 → Nat → mmT → Prop) (kK28 : ∀ (r1 : Option Nat) (r2 : Option Nat) (r3 : Option Nat) (r4 : Option Nat) (x5 : Int32) (t28 : Nat) (μ : mmT) (H : Heap) (locs : List Loc) (ls : Array Slot), Mm G μ H → va_S (Ah G) s.heap H locs → lv_has ls 9 [(0, .ref o), (1, va_rf r1), (2, va_rf r2), (3, va_rf r3), (4, va_rf r4), (5, .int x5)] → K28 r1 r2 r3 r4 x5 t28 μ → W p l e room_1 s m args below meth c H locs (652 + 2 * t28) (7573 + 12 * t28) Z (F0 m 28 ls [])) (r1 : Option Nat) (r2 : Option Nat) (r3 : Option Nat) (r4 : Option Nat) (x5 : Int32) (t28 : Nat) (μ : mmT) (H : Heap) (locs : List Loc) (ls : Array Slot), Mm G μ H → va_S (Ah G) s.heap H locs → lv_has ls 9 [(0, .ref o), (1, va_rf r1), (2, va_rf r2), (3, va_rf r3), (4, va_rf r4), (5, .int x5)] → w_L_law_b810 G o L xs K28 r1 r2 r3 r4 x5 t28 μ → W p l e room_1 s m args below meth c H locs (654 + 2 * t28) (7585 + 12 * t28) Z (F0 m 810 ls []) := by
  intro K28 kK28 r1 r2 r3 r4 x5 t28 μ H locs ls hM hS hl h
  unfold w_L_law_b810 at h
  obtain ⟨ht28, h⟩ := h
  refine lv_goto (tgt := 2766) S.1 S.2.1 dL_law_810 (by decide) ?_
  refine W.widen (k := 654 + 2 * t28) (n := 7585 + 12 * t28) (by omega) (by omega) ?_
  exact cB_L_law_2766 hl0 S hG hX hbl hbA hgh hend K28 kK28 r1 r2 r3 r4 x5 t28 μ H locs ls hM hS (lv_sub hl [0, 1, 2, 3, 4, 5] rfl) h
set_option maxRecDepth 100000 in
set_option maxHeartbeats 4000000 in
theorem cB_L_law_757 {p : Program} {l : Launch} {e : Env} {s : State} {m : MethodId} {args : Array Value} {below : List Frame} {meth : Method} {c : Code} {Z : State → Prop} {G : mgT} {o L : Nat} {xs : Nat → Int32} (hl0 : l.stackTraces = false) (S : CallFix p m c cL_law 9 s args TT RL) (hG : GK G s s.heap) (hX : va_X o L xs s s.heap) (hbl : o < s.heap.size) (hbA : ¬ Ah G o) (hgh : gh G = s.heap.size) (hend : ∀ (pc : Nat) (H : Heap) (ls : Array Slot), decode cL_law pc = .ok (.ireturn, 1) → W p l e room_1 s m args below meth c H [] 603072 7223402 Z (F0 m pc ls [.int 1])) : ∀ (K28 : Option Nat → Option Nat → Option Nat → Option Nat → Int32 → Nat → mmT → Prop) (kK28 : ∀ (r1 : Option Nat) (r2 : Option Nat) (r3 : Option Nat) (r4 : Option Nat) (x5 : Int32) (t28 : Nat) (μ : mmT) (H : Heap) (locs : List Loc) (ls : Array Slot), Mm G μ H → va_S (Ah G) s.heap H locs → lv_has ls 9 [(0, .ref o), (1, va_rf r1), (2, va_rf r2), (3, va_rf r3), (4, va_rf r4), (5, .int x5)] → K28 r1 r2 r3 r4 x5 t28 μ → W p l e room_1 s m args below meth c H locs (652 + 2 * t28) (7573 + 12 * t28) Z (F0 m 28 ls [])) (r1 : Option Nat) (r2 : Option Nat) (r3 : Option Nat) (r4 : Option Nat) (x5 : Int32) (t28 : Nat) (μ : mmT) (H : Heap) (locs : List Loc) (ls : Array Slot), Mm G μ H → va_S (Ah G) s.heap H locs → lv_has ls 9 [(0, .ref o), (1, va_rf r1), (2, va_rf r2), (3, va_rf r3), (4, va_rf r4), (5, .int x5)] → w_L_law_b757 G o L xs K28 r1 r2 r3 r4 x5 t28 μ → W p l e room_1 s m args below meth c H locs (652 + 2 * t28) (7573 + 12 * t28) Z (F0 m 757 ls []) := by
  intro K28 kK28 r1 r2 r3 r4 x5 t28 μ H locs ls hM hS hl h
  unfold w_L_law_b757 at h
  obtain ⟨ht28, h⟩ := h
  refine mz_aload_n (x := r1) S.1 S.2.1 dL_law_757 rfl (lv_at hl 1 rfl) ?_
  refine lv_aload_n S.1 S.2.1 dL_law_758 rfl (lv_at hl 0 rfl) ?_
  refine lv_iload S.1 S.2.1 dL_law_759 (lv_at hl 5 rfl) ?_
  refine lv_iconst (v := (nI 1)) S.1 S.2.1 dL_law_761 (by decide) ?_
  refine lv_iadd S.1 S.2.1 dL_law_762 ?_
  obtain ⟨b165, h⟩ := h
  refine va_sld S.1 S.2.1 hX hbl hbA hS b165 dL_law_763 ?_
  refine mz_aload_n (x := r3) S.1 S.2.1 dL_law_764 rfl (lv_at hl 3 rfl) ?_
  refine mz_SH S hG hM hS (As := [va_rf r1, .int (xs (x5 + (nI 1)).toNatClampNeg), va_rf r3]) (rest := []) (c_L_distance hl0 h) yh_L_distance tw_1079 tw_1080 ⟨Nat.le_of_ble_eq_true rfl, Nat.le_of_ble_eq_true rfl⟩ ⟨(by show (652 + 2 * t28) + 1 ≤ 603072; omega), (by show (7573 + 12 * t28) + 6 ≤ 7223402; omega)⟩ rfl hl.1 rfl (Nat.le_of_ble_eq_true rfl) dL_law_765 (fun v9 μ167 H locs hp hM hS => ?_)
  obtain ⟨u166, rfl, h⟩ := hp
  refine W.cs (cells' := 653 + 2 * t28) (slots' := 7579 + 12 * t28) (by first | omega | (dsimp only; omega)) (by first | omega | (dsimp only; omega)) ?_
  refine lv_istore (lv' := [(6, .int u166), (0, .ref o), (1, va_rf r1), (2, va_rf r2), (3, va_rf r3), (4, va_rf r4), (5, .int x5)]) S.1 S.2.1 dL_law_768 hl (by decide) rfl (fun ls hl => ?_)
  refine mz_aload_n (x := r2) S.1 S.2.1 dL_law_770 rfl (lv_at hl 3 rfl) ?_
  refine lv_aload_n S.1 S.2.1 dL_law_771 rfl (lv_at hl 1 rfl) ?_
  refine lv_iload S.1 S.2.1 dL_law_772 (lv_at hl 6 rfl) ?_
  refine lv_iconst (v := (nI 1)) S.1 S.2.1 dL_law_774 (by decide) ?_
  refine lv_iadd S.1 S.2.1 dL_law_775 ?_
  obtain ⟨b168, h⟩ := h
  refine va_sld S.1 S.2.1 hX hbl hbA hS b168 dL_law_776 ?_
  obtain ⟨a169, e170, h⟩ := h
  refine mz_o1 e170 ?_
  obtain ⟨k171, h⟩ := h
  refine mz_V S hG hM hS cf_10 k171 (As := [.int (xs (x5 + (nI 1)).toNatClampNeg)]) (rest := []) (c_X11_distance h) yf_X11_distance tw_1690 tw_1691 tw_1692 ⟨Nat.le_of_ble_eq_true rfl, Nat.le_of_ble_eq_true rfl⟩ ⟨(by show (653 + 2 * t28) + 0 ≤ 603072; omega), (by show (7579 + 12 * t28) + 0 ≤ 7223402; omega)⟩ rfl hl.1 rfl (Nat.le_of_ble_eq_true rfl) dL_law_777 (fun v9 μ173 H locs hp hM hS => ?_)
  obtain ⟨u172, rfl, h⟩ := hp
  refine W.cs (cells' := 653 + 2 * t28) (slots' := 7579 + 12 * t28) (by first | omega | (dsimp only; omega)) (by first | omega | (dsimp only; omega)) ?_
  refine lv_istore (lv' := [(7, .int u172), (6, .int u166), (0, .ref o), (1, va_rf r1), (2, va_rf r2), (3, va_rf r3), (4, va_rf r4), (5, .int x5)]) S.1 S.2.1 dL_law_780 hl (by decide) rfl (fun ls hl => ?_)
  refine mz_aload_n (x := r2) S.1 S.2.1 dL_law_782 rfl (lv_at hl 4 rfl) ?_
  refine mz_o0 e170 ?_
  obtain ⟨k174, h⟩ := h
  refine mz_V S hG hM hS cf_10 k174 (As := []) (rest := []) (c_X11_thrown h) yf_X11_thrown tw_1543 tw_1544 tw_1545 ⟨Nat.le_of_ble_eq_true rfl, Nat.le_of_ble_eq_true rfl⟩ ⟨(by show (653 + 2 * t28) + 0 ≤ 603072; omega), (by show (7579 + 12 * t28) + 0 ≤ 7223402; omega)⟩ rfl hl.1 rfl (Nat.le_of_ble_eq_true rfl) dL_law_783 (fun v9 μ9 H locs hp hM hS => ?_)
  obtain ⟨u175, rfl, e9, h⟩ := hp
  rw [e9] at hM
  refine W.cs (cells' := 653 + 2 * t28) (slots' := 7579 + 12 * t28) (by first | omega | (dsimp only; omega)) (by first | omega | (dsimp only; omega)) ?_
  refine lv_iload S.1 S.2.1 dL_law_786 (lv_at hl 1 rfl) ?_
  refine lv_icmp_eq (tgt := 793) S.1 S.2.1 dL_law_788 (by decide) (fun c176 => ?_) (fun c176 => ?_)
  · have h := h.1 c176
    refine lv_iload S.1 S.2.1 dL_law_793 (lv_at hl 1 rfl) ?_
    refine lv_if_ne (tgt := 810) S.1 S.2.1 dL_law_795 (by decide) (fun c177 => ?_) (fun c177 => ?_)
    · have h := h.1 c177
      refine W.widen (k := 654 + 2 * t28) (n := 7585 + 12 * t28) (by omega) (by omega) ?_
      exact cB_L_law_810 hl0 S hG hX hbl hbA hgh hend K28 kK28 r1 r2 r3 r4 x5 t28 μ173 H locs ls hM hS (lv_sub hl [2, 3, 4, 5, 6, 7] rfl) h
    · have h := h.2 c177
      refine mz_aload_n (x := r3) S.1 S.2.1 dL_law_798 rfl (lv_at hl 5 rfl) ?_
      refine lv_iconst (v := (nI 0)) S.1 S.2.1 dL_law_799 (by decide) ?_
      obtain ⟨a178, e179, h⟩ := h
      refine mz_o1 e179 ?_
      obtain ⟨k180, h⟩ := h
      obtain ⟨b181, h⟩ := h
      refine mz_lald S hG hM dL_law_800 k180 b181 ?_
      refine lv_iload S.1 S.2.1 dL_law_801 (lv_at hl 0 rfl) ?_
      refine lv_i2l S.1 S.2.1 dL_law_803 rfl ?_
      refine W.lcmp S.1 S.2.1 dL_law_804 ?_
      refine lv_if_eq (tgt := 810) S.1 S.2.1 dL_law_805 (by decide) (fun c182 => ?_) (fun c182 => ?_)
      · have h := h.1 c182
        refine W.widen (k := 654 + 2 * t28) (n := 7585 + 12 * t28) (by omega) (by omega) ?_
        exact cB_L_law_810 hl0 S hG hX hbl hbA hgh hend K28 kK28 r1 r2 r3 r4 x5 t28 μ173 H locs ls hM hS (lv_sub hl [2, 3, 4, 5, 6, 7] rfl) h
      · have h := h.2 c182
        refine lv_iconst (v := (nI 0)) S.1 S.2.1 dL_law_808 (by decide) ?_
        exact h.elim
  · have h := h.2 c176
    refine lv_iconst (v := (nI 0)) S.1 S.2.1 dL_law_791 (by decide) ?_
    exact h.elim
set_option maxRecDepth 100000 in
set_option maxHeartbeats 4000000 in
theorem cB_L_law_866 {p : Program} {l : Launch} {e : Env} {s : State} {m : MethodId} {args : Array Value} {below : List Frame} {meth : Method} {c : Code} {Z : State → Prop} {G : mgT} {o L : Nat} {xs : Nat → Int32} (hl0 : l.stackTraces = false) (S : CallFix p m c cL_law 9 s args TT RL) (hG : GK G s s.heap) (hX : va_X o L xs s s.heap) (hbl : o < s.heap.size) (hbA : ¬ Ah G o) (hgh : gh G = s.heap.size) (hend : ∀ (pc : Nat) (H : Heap) (ls : Array Slot), decode cL_law pc = .ok (.ireturn, 1) → W p l e room_1 s m args below meth c H [] 603072 7223402 Z (F0 m pc ls [.int 1])) : ∀ (K28 : Option Nat → Option Nat → Option Nat → Option Nat → Int32 → Nat → mmT → Prop) (kK28 : ∀ (r1 : Option Nat) (r2 : Option Nat) (r3 : Option Nat) (r4 : Option Nat) (x5 : Int32) (t28 : Nat) (μ : mmT) (H : Heap) (locs : List Loc) (ls : Array Slot), Mm G μ H → va_S (Ah G) s.heap H locs → lv_has ls 9 [(0, .ref o), (1, va_rf r1), (2, va_rf r2), (3, va_rf r3), (4, va_rf r4), (5, .int x5)] → K28 r1 r2 r3 r4 x5 t28 μ → W p l e room_1 s m args below meth c H locs (652 + 2 * t28) (7573 + 12 * t28) Z (F0 m 28 ls [])) (r1 : Option Nat) (r2 : Option Nat) (r3 : Option Nat) (r4 : Option Nat) (x5 : Int32) (t28 : Nat) (μ : mmT) (H : Heap) (locs : List Loc) (ls : Array Slot), Mm G μ H → va_S (Ah G) s.heap H locs → lv_has ls 9 [(0, .ref o), (1, va_rf r1), (2, va_rf r2), (3, va_rf r3), (4, va_rf r4), (5, .int x5)] → w_L_law_b866 G o L xs K28 r1 r2 r3 r4 x5 t28 μ → W p l e room_1 s m args below meth c H locs (654 + 2 * t28) (7585 + 12 * t28) Z (F0 m 866 ls []) := by
  intro K28 kK28 r1 r2 r3 r4 x5 t28 μ H locs ls hM hS hl h
  unfold w_L_law_b866 at h
  obtain ⟨ht28, h⟩ := h
  refine lv_goto (tgt := 2766) S.1 S.2.1 dL_law_866 (by decide) ?_
  refine W.widen (k := 654 + 2 * t28) (n := 7585 + 12 * t28) (by omega) (by omega) ?_
  exact cB_L_law_2766 hl0 S hG hX hbl hbA hgh hend K28 kK28 r1 r2 r3 r4 x5 t28 μ H locs ls hM hS (lv_sub hl [0, 1, 2, 3, 4, 5] rfl) h
set_option maxRecDepth 100000 in
set_option maxHeartbeats 4000000 in
theorem cB_L_law_813 {p : Program} {l : Launch} {e : Env} {s : State} {m : MethodId} {args : Array Value} {below : List Frame} {meth : Method} {c : Code} {Z : State → Prop} {G : mgT} {o L : Nat} {xs : Nat → Int32} (hl0 : l.stackTraces = false) (S : CallFix p m c cL_law 9 s args TT RL) (hG : GK G s s.heap) (hX : va_X o L xs s s.heap) (hbl : o < s.heap.size) (hbA : ¬ Ah G o) (hgh : gh G = s.heap.size) (hend : ∀ (pc : Nat) (H : Heap) (ls : Array Slot), decode cL_law pc = .ok (.ireturn, 1) → W p l e room_1 s m args below meth c H [] 603072 7223402 Z (F0 m pc ls [.int 1])) : ∀ (K28 : Option Nat → Option Nat → Option Nat → Option Nat → Int32 → Nat → mmT → Prop) (kK28 : ∀ (r1 : Option Nat) (r2 : Option Nat) (r3 : Option Nat) (r4 : Option Nat) (x5 : Int32) (t28 : Nat) (μ : mmT) (H : Heap) (locs : List Loc) (ls : Array Slot), Mm G μ H → va_S (Ah G) s.heap H locs → lv_has ls 9 [(0, .ref o), (1, va_rf r1), (2, va_rf r2), (3, va_rf r3), (4, va_rf r4), (5, .int x5)] → K28 r1 r2 r3 r4 x5 t28 μ → W p l e room_1 s m args below meth c H locs (652 + 2 * t28) (7573 + 12 * t28) Z (F0 m 28 ls [])) (r1 : Option Nat) (r2 : Option Nat) (r3 : Option Nat) (r4 : Option Nat) (x5 : Int32) (t28 : Nat) (μ : mmT) (H : Heap) (locs : List Loc) (ls : Array Slot), Mm G μ H → va_S (Ah G) s.heap H locs → lv_has ls 9 [(0, .ref o), (1, va_rf r1), (2, va_rf r2), (3, va_rf r3), (4, va_rf r4), (5, .int x5)] → w_L_law_b813 G o L xs K28 r1 r2 r3 r4 x5 t28 μ → W p l e room_1 s m args below meth c H locs (652 + 2 * t28) (7573 + 12 * t28) Z (F0 m 813 ls []) := by
  intro K28 kK28 r1 r2 r3 r4 x5 t28 μ H locs ls hM hS hl h
  unfold w_L_law_b813 at h
  obtain ⟨ht28, h⟩ := h
  refine mz_aload_n (x := r1) S.1 S.2.1 dL_law_813 rfl (lv_at hl 1 rfl) ?_
  refine lv_aload_n S.1 S.2.1 dL_law_814 rfl (lv_at hl 0 rfl) ?_
  refine lv_iload S.1 S.2.1 dL_law_815 (lv_at hl 5 rfl) ?_
  refine lv_iconst (v := (nI 1)) S.1 S.2.1 dL_law_817 (by decide) ?_
  refine lv_iadd S.1 S.2.1 dL_law_818 ?_
  obtain ⟨b183, h⟩ := h
  refine va_sld S.1 S.2.1 hX hbl hbA hS b183 dL_law_819 ?_
  refine mz_aload_n (x := r3) S.1 S.2.1 dL_law_820 rfl (lv_at hl 3 rfl) ?_
  refine mz_SH S hG hM hS (As := [va_rf r1, .int (xs (x5 + (nI 1)).toNatClampNeg), va_rf r3]) (rest := []) (c_L_loss hl0 h) yh_L_loss tw_1091 tw_1092 ⟨Nat.le_of_ble_eq_true rfl, Nat.le_of_ble_eq_true rfl⟩ ⟨(by show (652 + 2 * t28) + 1 ≤ 603072; omega), (by show (7573 + 12 * t28) + 6 ≤ 7223402; omega)⟩ rfl hl.1 rfl (Nat.le_of_ble_eq_true rfl) dL_law_821 (fun v9 μ185 H locs hp hM hS => ?_)
  obtain ⟨u184, rfl, h⟩ := hp
  refine W.cs (cells' := 653 + 2 * t28) (slots' := 7579 + 12 * t28) (by first | omega | (dsimp only; omega)) (by first | omega | (dsimp only; omega)) ?_
  refine lv_istore (lv' := [(6, .int u184), (0, .ref o), (1, va_rf r1), (2, va_rf r2), (3, va_rf r3), (4, va_rf r4), (5, .int x5)]) S.1 S.2.1 dL_law_824 hl (by decide) rfl (fun ls hl => ?_)
  refine mz_aload_n (x := r2) S.1 S.2.1 dL_law_826 rfl (lv_at hl 3 rfl) ?_
  refine lv_aload_n S.1 S.2.1 dL_law_827 rfl (lv_at hl 1 rfl) ?_
  refine lv_iload S.1 S.2.1 dL_law_828 (lv_at hl 6 rfl) ?_
  refine lv_iconst (v := (nI 1)) S.1 S.2.1 dL_law_830 (by decide) ?_
  refine lv_iadd S.1 S.2.1 dL_law_831 ?_
  obtain ⟨b186, h⟩ := h
  refine va_sld S.1 S.2.1 hX hbl hbA hS b186 dL_law_832 ?_
  obtain ⟨a187, e188, h⟩ := h
  refine mz_o1 e188 ?_
  obtain ⟨k189, h⟩ := h
  refine mz_V S hG hM hS cf_10 k189 (As := [.int (xs (x5 + (nI 1)).toNatClampNeg)]) (rest := []) (c_X11_loss h) yf_X11_loss tw_1698 tw_1699 tw_1700 ⟨Nat.le_of_ble_eq_true rfl, Nat.le_of_ble_eq_true rfl⟩ ⟨(by show (653 + 2 * t28) + 0 ≤ 603072; omega), (by show (7579 + 12 * t28) + 0 ≤ 7223402; omega)⟩ rfl hl.1 rfl (Nat.le_of_ble_eq_true rfl) dL_law_833 (fun v9 μ191 H locs hp hM hS => ?_)
  obtain ⟨u190, rfl, h⟩ := hp
  refine W.cs (cells' := 653 + 2 * t28) (slots' := 7579 + 12 * t28) (by first | omega | (dsimp only; omega)) (by first | omega | (dsimp only; omega)) ?_
  refine lv_istore (lv' := [(7, .int u190), (6, .int u184), (0, .ref o), (1, va_rf r1), (2, va_rf r2), (3, va_rf r3), (4, va_rf r4), (5, .int x5)]) S.1 S.2.1 dL_law_836 hl (by decide) rfl (fun ls hl => ?_)
  refine mz_aload_n (x := r2) S.1 S.2.1 dL_law_838 rfl (lv_at hl 4 rfl) ?_
  refine mz_o0 e188 ?_
  obtain ⟨k192, h⟩ := h
  refine mz_V S hG hM hS cf_10 k192 (As := []) (rest := []) (c_X11_thrown h) yf_X11_thrown tw_1543 tw_1544 tw_1545 ⟨Nat.le_of_ble_eq_true rfl, Nat.le_of_ble_eq_true rfl⟩ ⟨(by show (653 + 2 * t28) + 0 ≤ 603072; omega), (by show (7579 + 12 * t28) + 0 ≤ 7223402; omega)⟩ rfl hl.1 rfl (Nat.le_of_ble_eq_true rfl) dL_law_839 (fun v9 μ9 H locs hp hM hS => ?_)
  obtain ⟨u193, rfl, e9, h⟩ := hp
  rw [e9] at hM
  refine W.cs (cells' := 653 + 2 * t28) (slots' := 7579 + 12 * t28) (by first | omega | (dsimp only; omega)) (by first | omega | (dsimp only; omega)) ?_
  refine lv_iload S.1 S.2.1 dL_law_842 (lv_at hl 1 rfl) ?_
  refine lv_icmp_eq (tgt := 849) S.1 S.2.1 dL_law_844 (by decide) (fun c194 => ?_) (fun c194 => ?_)
  · have h := h.1 c194
    refine lv_iload S.1 S.2.1 dL_law_849 (lv_at hl 1 rfl) ?_
    refine lv_if_ne (tgt := 866) S.1 S.2.1 dL_law_851 (by decide) (fun c195 => ?_) (fun c195 => ?_)
    · have h := h.1 c195
      refine W.widen (k := 654 + 2 * t28) (n := 7585 + 12 * t28) (by omega) (by omega) ?_
      exact cB_L_law_866 hl0 S hG hX hbl hbA hgh hend K28 kK28 r1 r2 r3 r4 x5 t28 μ191 H locs ls hM hS (lv_sub hl [2, 3, 4, 5, 6, 7] rfl) h
    · have h := h.2 c195
      refine mz_aload_n (x := r3) S.1 S.2.1 dL_law_854 rfl (lv_at hl 5 rfl) ?_
      refine lv_iconst (v := (nI 0)) S.1 S.2.1 dL_law_855 (by decide) ?_
      obtain ⟨a196, e197, h⟩ := h
      refine mz_o1 e197 ?_
      obtain ⟨k198, h⟩ := h
      obtain ⟨b199, h⟩ := h
      refine mz_lald S hG hM dL_law_856 k198 b199 ?_
      refine lv_iload S.1 S.2.1 dL_law_857 (lv_at hl 0 rfl) ?_
      refine lv_i2l S.1 S.2.1 dL_law_859 rfl ?_
      refine W.lcmp S.1 S.2.1 dL_law_860 ?_
      refine lv_if_eq (tgt := 866) S.1 S.2.1 dL_law_861 (by decide) (fun c200 => ?_) (fun c200 => ?_)
      · have h := h.1 c200
        refine W.widen (k := 654 + 2 * t28) (n := 7585 + 12 * t28) (by omega) (by omega) ?_
        exact cB_L_law_866 hl0 S hG hX hbl hbA hgh hend K28 kK28 r1 r2 r3 r4 x5 t28 μ191 H locs ls hM hS (lv_sub hl [2, 3, 4, 5, 6, 7] rfl) h
      · have h := h.2 c200
        refine lv_iconst (v := (nI 0)) S.1 S.2.1 dL_law_864 (by decide) ?_
        exact h.elim
  · have h := h.2 c194
    refine lv_iconst (v := (nI 0)) S.1 S.2.1 dL_law_847 (by decide) ?_
    exact h.elim
set_option maxRecDepth 100000 in
set_option maxHeartbeats 4000000 in
theorem cB_L_law_922 {p : Program} {l : Launch} {e : Env} {s : State} {m : MethodId} {args : Array Value} {below : List Frame} {meth : Method} {c : Code} {Z : State → Prop} {G : mgT} {o L : Nat} {xs : Nat → Int32} (hl0 : l.stackTraces = false) (S : CallFix p m c cL_law 9 s args TT RL) (hG : GK G s s.heap) (hX : va_X o L xs s s.heap) (hbl : o < s.heap.size) (hbA : ¬ Ah G o) (hgh : gh G = s.heap.size) (hend : ∀ (pc : Nat) (H : Heap) (ls : Array Slot), decode cL_law pc = .ok (.ireturn, 1) → W p l e room_1 s m args below meth c H [] 603072 7223402 Z (F0 m pc ls [.int 1])) : ∀ (K28 : Option Nat → Option Nat → Option Nat → Option Nat → Int32 → Nat → mmT → Prop) (kK28 : ∀ (r1 : Option Nat) (r2 : Option Nat) (r3 : Option Nat) (r4 : Option Nat) (x5 : Int32) (t28 : Nat) (μ : mmT) (H : Heap) (locs : List Loc) (ls : Array Slot), Mm G μ H → va_S (Ah G) s.heap H locs → lv_has ls 9 [(0, .ref o), (1, va_rf r1), (2, va_rf r2), (3, va_rf r3), (4, va_rf r4), (5, .int x5)] → K28 r1 r2 r3 r4 x5 t28 μ → W p l e room_1 s m args below meth c H locs (652 + 2 * t28) (7573 + 12 * t28) Z (F0 m 28 ls [])) (r1 : Option Nat) (r2 : Option Nat) (r3 : Option Nat) (r4 : Option Nat) (x5 : Int32) (t28 : Nat) (μ : mmT) (H : Heap) (locs : List Loc) (ls : Array Slot), Mm G μ H → va_S (Ah G) s.heap H locs → lv_has ls 9 [(0, .ref o), (1, va_rf r1), (2, va_rf r2), (3, va_rf r3), (4, va_rf r4), (5, .int x5)] → w_L_law_b922 G o L xs K28 r1 r2 r3 r4 x5 t28 μ → W p l e room_1 s m args below meth c H locs (654 + 2 * t28) (7585 + 12 * t28) Z (F0 m 922 ls []) := by
  intro K28 kK28 r1 r2 r3 r4 x5 t28 μ H locs ls hM hS hl h
  unfold w_L_law_b922 at h
  obtain ⟨ht28, h⟩ := h
  refine lv_goto (tgt := 2766) S.1 S.2.1 dL_law_922 (by decide) ?_
  refine W.widen (k := 654 + 2 * t28) (n := 7585 + 12 * t28) (by omega) (by omega) ?_
  exact cB_L_law_2766 hl0 S hG hX hbl hbA hgh hend K28 kK28 r1 r2 r3 r4 x5 t28 μ H locs ls hM hS (lv_sub hl [0, 1, 2, 3, 4, 5] rfl) h
set_option maxRecDepth 100000 in
set_option maxHeartbeats 4000000 in
theorem cB_L_law_869 {p : Program} {l : Launch} {e : Env} {s : State} {m : MethodId} {args : Array Value} {below : List Frame} {meth : Method} {c : Code} {Z : State → Prop} {G : mgT} {o L : Nat} {xs : Nat → Int32} (hl0 : l.stackTraces = false) (S : CallFix p m c cL_law 9 s args TT RL) (hG : GK G s s.heap) (hX : va_X o L xs s s.heap) (hbl : o < s.heap.size) (hbA : ¬ Ah G o) (hgh : gh G = s.heap.size) (hend : ∀ (pc : Nat) (H : Heap) (ls : Array Slot), decode cL_law pc = .ok (.ireturn, 1) → W p l e room_1 s m args below meth c H [] 603072 7223402 Z (F0 m pc ls [.int 1])) : ∀ (K28 : Option Nat → Option Nat → Option Nat → Option Nat → Int32 → Nat → mmT → Prop) (kK28 : ∀ (r1 : Option Nat) (r2 : Option Nat) (r3 : Option Nat) (r4 : Option Nat) (x5 : Int32) (t28 : Nat) (μ : mmT) (H : Heap) (locs : List Loc) (ls : Array Slot), Mm G μ H → va_S (Ah G) s.heap H locs → lv_has ls 9 [(0, .ref o), (1, va_rf r1), (2, va_rf r2), (3, va_rf r3), (4, va_rf r4), (5, .int x5)] → K28 r1 r2 r3 r4 x5 t28 μ → W p l e room_1 s m args below meth c H locs (652 + 2 * t28) (7573 + 12 * t28) Z (F0 m 28 ls [])) (r1 : Option Nat) (r2 : Option Nat) (r3 : Option Nat) (r4 : Option Nat) (x5 : Int32) (t28 : Nat) (μ : mmT) (H : Heap) (locs : List Loc) (ls : Array Slot), Mm G μ H → va_S (Ah G) s.heap H locs → lv_has ls 9 [(0, .ref o), (1, va_rf r1), (2, va_rf r2), (3, va_rf r3), (4, va_rf r4), (5, .int x5)] → w_L_law_b869 G o L xs K28 r1 r2 r3 r4 x5 t28 μ → W p l e room_1 s m args below meth c H locs (652 + 2 * t28) (7573 + 12 * t28) Z (F0 m 869 ls []) := by
  intro K28 kK28 r1 r2 r3 r4 x5 t28 μ H locs ls hM hS hl h
  unfold w_L_law_b869 at h
  obtain ⟨ht28, h⟩ := h
  refine mz_aload_n (x := r1) S.1 S.2.1 dL_law_869 rfl (lv_at hl 1 rfl) ?_
  refine lv_aload_n S.1 S.2.1 dL_law_870 rfl (lv_at hl 0 rfl) ?_
  refine lv_iload S.1 S.2.1 dL_law_871 (lv_at hl 5 rfl) ?_
  refine lv_iconst (v := (nI 1)) S.1 S.2.1 dL_law_873 (by decide) ?_
  refine lv_iadd S.1 S.2.1 dL_law_874 ?_
  obtain ⟨b201, h⟩ := h
  refine va_sld S.1 S.2.1 hX hbl hbA hS b201 dL_law_875 ?_
  refine mz_aload_n (x := r3) S.1 S.2.1 dL_law_876 rfl (lv_at hl 3 rfl) ?_
  refine mz_SH S hG hM hS (As := [va_rf r1, .int (xs (x5 + (nI 1)).toNatClampNeg), va_rf r3]) (rest := []) (c_L_inboxSize hl0 h) yh_L_inboxSize tw_1098 tw_1099 ⟨Nat.le_of_ble_eq_true rfl, Nat.le_of_ble_eq_true rfl⟩ ⟨(by show (652 + 2 * t28) + 1 ≤ 603072; omega), (by show (7573 + 12 * t28) + 6 ≤ 7223402; omega)⟩ rfl hl.1 rfl (Nat.le_of_ble_eq_true rfl) dL_law_877 (fun v9 μ203 H locs hp hM hS => ?_)
  obtain ⟨u202, rfl, h⟩ := hp
  refine W.cs (cells' := 653 + 2 * t28) (slots' := 7579 + 12 * t28) (by first | omega | (dsimp only; omega)) (by first | omega | (dsimp only; omega)) ?_
  refine lv_istore (lv' := [(6, .int u202), (0, .ref o), (1, va_rf r1), (2, va_rf r2), (3, va_rf r3), (4, va_rf r4), (5, .int x5)]) S.1 S.2.1 dL_law_880 hl (by decide) rfl (fun ls hl => ?_)
  refine mz_aload_n (x := r2) S.1 S.2.1 dL_law_882 rfl (lv_at hl 3 rfl) ?_
  refine lv_aload_n S.1 S.2.1 dL_law_883 rfl (lv_at hl 1 rfl) ?_
  refine lv_iload S.1 S.2.1 dL_law_884 (lv_at hl 6 rfl) ?_
  refine lv_iconst (v := (nI 1)) S.1 S.2.1 dL_law_886 (by decide) ?_
  refine lv_iadd S.1 S.2.1 dL_law_887 ?_
  obtain ⟨b204, h⟩ := h
  refine va_sld S.1 S.2.1 hX hbl hbA hS b204 dL_law_888 ?_
  obtain ⟨a205, e206, h⟩ := h
  refine mz_o1 e206 ?_
  obtain ⟨k207, h⟩ := h
  refine mz_V S hG hM hS cf_10 k207 (As := [.int (xs (x5 + (nI 1)).toNatClampNeg)]) (rest := []) (c_X11_inboxSize h) yf_X11_inboxSize tw_1702 tw_1703 tw_1704 ⟨Nat.le_of_ble_eq_true rfl, Nat.le_of_ble_eq_true rfl⟩ ⟨(by show (653 + 2 * t28) + 0 ≤ 603072; omega), (by show (7579 + 12 * t28) + 0 ≤ 7223402; omega)⟩ rfl hl.1 rfl (Nat.le_of_ble_eq_true rfl) dL_law_889 (fun v9 μ209 H locs hp hM hS => ?_)
  obtain ⟨u208, rfl, h⟩ := hp
  refine W.cs (cells' := 653 + 2 * t28) (slots' := 7579 + 12 * t28) (by first | omega | (dsimp only; omega)) (by first | omega | (dsimp only; omega)) ?_
  refine lv_istore (lv' := [(7, .int u208), (6, .int u202), (0, .ref o), (1, va_rf r1), (2, va_rf r2), (3, va_rf r3), (4, va_rf r4), (5, .int x5)]) S.1 S.2.1 dL_law_892 hl (by decide) rfl (fun ls hl => ?_)
  refine mz_aload_n (x := r2) S.1 S.2.1 dL_law_894 rfl (lv_at hl 4 rfl) ?_
  refine mz_o0 e206 ?_
  obtain ⟨k210, h⟩ := h
  refine mz_V S hG hM hS cf_10 k210 (As := []) (rest := []) (c_X11_thrown h) yf_X11_thrown tw_1543 tw_1544 tw_1545 ⟨Nat.le_of_ble_eq_true rfl, Nat.le_of_ble_eq_true rfl⟩ ⟨(by show (653 + 2 * t28) + 0 ≤ 603072; omega), (by show (7579 + 12 * t28) + 0 ≤ 7223402; omega)⟩ rfl hl.1 rfl (Nat.le_of_ble_eq_true rfl) dL_law_895 (fun v9 μ9 H locs hp hM hS => ?_)
  obtain ⟨u211, rfl, e9, h⟩ := hp
  rw [e9] at hM
  refine W.cs (cells' := 653 + 2 * t28) (slots' := 7579 + 12 * t28) (by first | omega | (dsimp only; omega)) (by first | omega | (dsimp only; omega)) ?_
  refine lv_iload S.1 S.2.1 dL_law_898 (lv_at hl 1 rfl) ?_
  refine lv_icmp_eq (tgt := 905) S.1 S.2.1 dL_law_900 (by decide) (fun c212 => ?_) (fun c212 => ?_)
  · have h := h.1 c212
    refine lv_iload S.1 S.2.1 dL_law_905 (lv_at hl 1 rfl) ?_
    refine lv_if_ne (tgt := 922) S.1 S.2.1 dL_law_907 (by decide) (fun c213 => ?_) (fun c213 => ?_)
    · have h := h.1 c213
      refine W.widen (k := 654 + 2 * t28) (n := 7585 + 12 * t28) (by omega) (by omega) ?_
      exact cB_L_law_922 hl0 S hG hX hbl hbA hgh hend K28 kK28 r1 r2 r3 r4 x5 t28 μ209 H locs ls hM hS (lv_sub hl [2, 3, 4, 5, 6, 7] rfl) h
    · have h := h.2 c213
      refine mz_aload_n (x := r3) S.1 S.2.1 dL_law_910 rfl (lv_at hl 5 rfl) ?_
      refine lv_iconst (v := (nI 0)) S.1 S.2.1 dL_law_911 (by decide) ?_
      obtain ⟨a214, e215, h⟩ := h
      refine mz_o1 e215 ?_
      obtain ⟨k216, h⟩ := h
      obtain ⟨b217, h⟩ := h
      refine mz_lald S hG hM dL_law_912 k216 b217 ?_
      refine lv_iload S.1 S.2.1 dL_law_913 (lv_at hl 0 rfl) ?_
      refine lv_i2l S.1 S.2.1 dL_law_915 rfl ?_
      refine W.lcmp S.1 S.2.1 dL_law_916 ?_
      refine lv_if_eq (tgt := 922) S.1 S.2.1 dL_law_917 (by decide) (fun c218 => ?_) (fun c218 => ?_)
      · have h := h.1 c218
        refine W.widen (k := 654 + 2 * t28) (n := 7585 + 12 * t28) (by omega) (by omega) ?_
        exact cB_L_law_922 hl0 S hG hX hbl hbA hgh hend K28 kK28 r1 r2 r3 r4 x5 t28 μ209 H locs ls hM hS (lv_sub hl [2, 3, 4, 5, 6, 7] rfl) h
      · have h := h.2 c218
        refine lv_iconst (v := (nI 0)) S.1 S.2.1 dL_law_920 (by decide) ?_
        exact h.elim
  · have h := h.2 c212
    refine lv_iconst (v := (nI 0)) S.1 S.2.1 dL_law_903 (by decide) ?_
    exact h.elim
set_option maxRecDepth 100000 in
set_option maxHeartbeats 4000000 in
theorem cB_L_law_990 {p : Program} {l : Launch} {e : Env} {s : State} {m : MethodId} {args : Array Value} {below : List Frame} {meth : Method} {c : Code} {Z : State → Prop} {G : mgT} {o L : Nat} {xs : Nat → Int32} (hl0 : l.stackTraces = false) (S : CallFix p m c cL_law 9 s args TT RL) (hG : GK G s s.heap) (hX : va_X o L xs s s.heap) (hbl : o < s.heap.size) (hbA : ¬ Ah G o) (hgh : gh G = s.heap.size) (hend : ∀ (pc : Nat) (H : Heap) (ls : Array Slot), decode cL_law pc = .ok (.ireturn, 1) → W p l e room_1 s m args below meth c H [] 603072 7223402 Z (F0 m pc ls [.int 1])) : ∀ (K28 : Option Nat → Option Nat → Option Nat → Option Nat → Int32 → Nat → mmT → Prop) (kK28 : ∀ (r1 : Option Nat) (r2 : Option Nat) (r3 : Option Nat) (r4 : Option Nat) (x5 : Int32) (t28 : Nat) (μ : mmT) (H : Heap) (locs : List Loc) (ls : Array Slot), Mm G μ H → va_S (Ah G) s.heap H locs → lv_has ls 9 [(0, .ref o), (1, va_rf r1), (2, va_rf r2), (3, va_rf r3), (4, va_rf r4), (5, .int x5)] → K28 r1 r2 r3 r4 x5 t28 μ → W p l e room_1 s m args below meth c H locs (652 + 2 * t28) (7573 + 12 * t28) Z (F0 m 28 ls [])) (r1 : Option Nat) (r2 : Option Nat) (r3 : Option Nat) (r4 : Option Nat) (x5 : Int32) (t28 : Nat) (μ : mmT) (H : Heap) (locs : List Loc) (ls : Array Slot), Mm G μ H → va_S (Ah G) s.heap H locs → lv_has ls 9 [(0, .ref o), (1, va_rf r1), (2, va_rf r2), (3, va_rf r3), (4, va_rf r4), (5, .int x5)] → w_L_law_b990 G o L xs K28 r1 r2 r3 r4 x5 t28 μ → W p l e room_1 s m args below meth c H locs (654 + 2 * t28) (7585 + 12 * t28) Z (F0 m 990 ls []) := by
  intro K28 kK28 r1 r2 r3 r4 x5 t28 μ H locs ls hM hS hl h
  unfold w_L_law_b990 at h
  obtain ⟨ht28, h⟩ := h
  refine lv_goto (tgt := 2766) S.1 S.2.1 dL_law_990 (by decide) ?_
  refine W.widen (k := 654 + 2 * t28) (n := 7585 + 12 * t28) (by omega) (by omega) ?_
  exact cB_L_law_2766 hl0 S hG hX hbl hbA hgh hend K28 kK28 r1 r2 r3 r4 x5 t28 μ H locs ls hM hS (lv_sub hl [0, 1, 2, 3, 4, 5] rfl) h
set_option maxRecDepth 100000 in
set_option maxHeartbeats 4000000 in
theorem cB_L_law_925 {p : Program} {l : Launch} {e : Env} {s : State} {m : MethodId} {args : Array Value} {below : List Frame} {meth : Method} {c : Code} {Z : State → Prop} {G : mgT} {o L : Nat} {xs : Nat → Int32} (hl0 : l.stackTraces = false) (S : CallFix p m c cL_law 9 s args TT RL) (hG : GK G s s.heap) (hX : va_X o L xs s s.heap) (hbl : o < s.heap.size) (hbA : ¬ Ah G o) (hgh : gh G = s.heap.size) (hend : ∀ (pc : Nat) (H : Heap) (ls : Array Slot), decode cL_law pc = .ok (.ireturn, 1) → W p l e room_1 s m args below meth c H [] 603072 7223402 Z (F0 m pc ls [.int 1])) : ∀ (K28 : Option Nat → Option Nat → Option Nat → Option Nat → Int32 → Nat → mmT → Prop) (kK28 : ∀ (r1 : Option Nat) (r2 : Option Nat) (r3 : Option Nat) (r4 : Option Nat) (x5 : Int32) (t28 : Nat) (μ : mmT) (H : Heap) (locs : List Loc) (ls : Array Slot), Mm G μ H → va_S (Ah G) s.heap H locs → lv_has ls 9 [(0, .ref o), (1, va_rf r1), (2, va_rf r2), (3, va_rf r3), (4, va_rf r4), (5, .int x5)] → K28 r1 r2 r3 r4 x5 t28 μ → W p l e room_1 s m args below meth c H locs (652 + 2 * t28) (7573 + 12 * t28) Z (F0 m 28 ls [])) (r1 : Option Nat) (r2 : Option Nat) (r3 : Option Nat) (r4 : Option Nat) (x5 : Int32) (t28 : Nat) (μ : mmT) (H : Heap) (locs : List Loc) (ls : Array Slot), Mm G μ H → va_S (Ah G) s.heap H locs → lv_has ls 9 [(0, .ref o), (1, va_rf r1), (2, va_rf r2), (3, va_rf r3), (4, va_rf r4), (5, .int x5)] → w_L_law_b925 G o L xs K28 r1 r2 r3 r4 x5 t28 μ → W p l e room_1 s m args below meth c H locs (652 + 2 * t28) (7573 + 12 * t28) Z (F0 m 925 ls []) := by
  intro K28 kK28 r1 r2 r3 r4 x5 t28 μ H locs ls hM hS hl h
  unfold w_L_law_b925 at h
  obtain ⟨ht28, h⟩ := h
  refine mz_aload_n (x := r1) S.1 S.2.1 dL_law_925 rfl (lv_at hl 1 rfl) ?_
  refine lv_aload_n S.1 S.2.1 dL_law_926 rfl (lv_at hl 0 rfl) ?_
  refine lv_iload S.1 S.2.1 dL_law_927 (lv_at hl 5 rfl) ?_
  refine lv_iconst (v := (nI 1)) S.1 S.2.1 dL_law_929 (by decide) ?_
  refine lv_iadd S.1 S.2.1 dL_law_930 ?_
  obtain ⟨b219, h⟩ := h
  refine va_sld S.1 S.2.1 hX hbl hbA hS b219 dL_law_931 ?_
  refine lv_aload_n S.1 S.2.1 dL_law_932 rfl (lv_at hl 0 rfl) ?_
  refine lv_iload S.1 S.2.1 dL_law_933 (lv_at hl 5 rfl) ?_
  refine lv_iconst (v := (nI 2)) S.1 S.2.1 dL_law_935 (by decide) ?_
  refine lv_iadd S.1 S.2.1 dL_law_936 ?_
  obtain ⟨b220, h⟩ := h
  refine va_sld S.1 S.2.1 hX hbl hbA hS b220 dL_law_937 ?_
  refine mz_aload_n (x := r3) S.1 S.2.1 dL_law_938 rfl (lv_at hl 3 rfl) ?_
  refine mz_SH S hG hM hS (As := [va_rf r1, .int (xs (x5 + (nI 1)).toNatClampNeg), .int (xs (x5 + (nI 2)).toNatClampNeg), va_rf r3]) (rest := []) (c_L_inboxMessage hl0 h) yh_L_inboxMessage tw_1105 tw_1106 ⟨Nat.le_of_ble_eq_true rfl, Nat.le_of_ble_eq_true rfl⟩ ⟨(by show (652 + 2 * t28) + 2 ≤ 603072; omega), (by show (7573 + 12 * t28) + 12 ≤ 7223402; omega)⟩ rfl hl.1 rfl (Nat.le_of_ble_eq_true rfl) dL_law_939 (fun v9 μ222 H locs hp hM hS => ?_)
  obtain ⟨u221, rfl, h⟩ := hp
  refine W.cs (cells' := 654 + 2 * t28) (slots' := 7585 + 12 * t28) (by first | omega | (dsimp only; omega)) (by first | omega | (dsimp only; omega)) ?_
  refine lv_istore (lv' := [(6, .int u221), (0, .ref o), (1, va_rf r1), (2, va_rf r2), (3, va_rf r3), (4, va_rf r4), (5, .int x5)]) S.1 S.2.1 dL_law_942 hl (by decide) rfl (fun ls hl => ?_)
  refine mz_aload_n (x := r2) S.1 S.2.1 dL_law_944 rfl (lv_at hl 3 rfl) ?_
  refine lv_aload_n S.1 S.2.1 dL_law_945 rfl (lv_at hl 1 rfl) ?_
  refine lv_iload S.1 S.2.1 dL_law_946 (lv_at hl 6 rfl) ?_
  refine lv_iconst (v := (nI 1)) S.1 S.2.1 dL_law_948 (by decide) ?_
  refine lv_iadd S.1 S.2.1 dL_law_949 ?_
  obtain ⟨b223, h⟩ := h
  refine va_sld S.1 S.2.1 hX hbl hbA hS b223 dL_law_950 ?_
  refine lv_aload_n S.1 S.2.1 dL_law_951 rfl (lv_at hl 1 rfl) ?_
  refine lv_iload S.1 S.2.1 dL_law_952 (lv_at hl 6 rfl) ?_
  refine lv_iconst (v := (nI 2)) S.1 S.2.1 dL_law_954 (by decide) ?_
  refine lv_iadd S.1 S.2.1 dL_law_955 ?_
  obtain ⟨b224, h⟩ := h
  refine va_sld S.1 S.2.1 hX hbl hbA hS b224 dL_law_956 ?_
  obtain ⟨a225, e226, h⟩ := h
  refine mz_o2 e226 ?_
  obtain ⟨k227, h⟩ := h
  refine mz_V S hG hM hS cf_10 k227 (As := [.int (xs (x5 + (nI 1)).toNatClampNeg), .int (xs (x5 + (nI 2)).toNatClampNeg)]) (rest := []) (c_X11_inboxMessage h) yf_X11_inboxMessage tw_1706 tw_1707 tw_1708 ⟨Nat.le_of_ble_eq_true rfl, Nat.le_of_ble_eq_true rfl⟩ ⟨(by show (654 + 2 * t28) + 0 ≤ 603072; omega), (by show (7585 + 12 * t28) + 0 ≤ 7223402; omega)⟩ rfl hl.1 rfl (Nat.le_of_ble_eq_true rfl) dL_law_957 (fun v9 μ229 H locs hp hM hS => ?_)
  obtain ⟨u228, rfl, h⟩ := hp
  refine W.cs (cells' := 654 + 2 * t28) (slots' := 7585 + 12 * t28) (by first | omega | (dsimp only; omega)) (by first | omega | (dsimp only; omega)) ?_
  refine lv_istore (lv' := [(7, .int u228), (6, .int u221), (0, .ref o), (1, va_rf r1), (2, va_rf r2), (3, va_rf r3), (4, va_rf r4), (5, .int x5)]) S.1 S.2.1 dL_law_960 hl (by decide) rfl (fun ls hl => ?_)
  refine mz_aload_n (x := r2) S.1 S.2.1 dL_law_962 rfl (lv_at hl 4 rfl) ?_
  refine mz_o0 e226 ?_
  obtain ⟨k230, h⟩ := h
  refine mz_V S hG hM hS cf_10 k230 (As := []) (rest := []) (c_X11_thrown h) yf_X11_thrown tw_1543 tw_1544 tw_1545 ⟨Nat.le_of_ble_eq_true rfl, Nat.le_of_ble_eq_true rfl⟩ ⟨(by show (654 + 2 * t28) + 0 ≤ 603072; omega), (by show (7585 + 12 * t28) + 0 ≤ 7223402; omega)⟩ rfl hl.1 rfl (Nat.le_of_ble_eq_true rfl) dL_law_963 (fun v9 μ9 H locs hp hM hS => ?_)
  obtain ⟨u231, rfl, e9, h⟩ := hp
  rw [e9] at hM
  refine W.cs (cells' := 654 + 2 * t28) (slots' := 7585 + 12 * t28) (by first | omega | (dsimp only; omega)) (by first | omega | (dsimp only; omega)) ?_
  refine lv_iload S.1 S.2.1 dL_law_966 (lv_at hl 1 rfl) ?_
  refine lv_icmp_eq (tgt := 973) S.1 S.2.1 dL_law_968 (by decide) (fun c232 => ?_) (fun c232 => ?_)
  · have h := h.1 c232
    refine lv_iload S.1 S.2.1 dL_law_973 (lv_at hl 1 rfl) ?_
    refine lv_if_ne (tgt := 990) S.1 S.2.1 dL_law_975 (by decide) (fun c233 => ?_) (fun c233 => ?_)
    · have h := h.1 c233
      refine W.widen (k := 654 + 2 * t28) (n := 7585 + 12 * t28) (by omega) (by omega) ?_
      exact cB_L_law_990 hl0 S hG hX hbl hbA hgh hend K28 kK28 r1 r2 r3 r4 x5 t28 μ229 H locs ls hM hS (lv_sub hl [2, 3, 4, 5, 6, 7] rfl) h
    · have h := h.2 c233
      refine mz_aload_n (x := r3) S.1 S.2.1 dL_law_978 rfl (lv_at hl 5 rfl) ?_
      refine lv_iconst (v := (nI 0)) S.1 S.2.1 dL_law_979 (by decide) ?_
      obtain ⟨a234, e235, h⟩ := h
      refine mz_o1 e235 ?_
      obtain ⟨k236, h⟩ := h
      obtain ⟨b237, h⟩ := h
      refine mz_lald S hG hM dL_law_980 k236 b237 ?_
      refine lv_iload S.1 S.2.1 dL_law_981 (lv_at hl 0 rfl) ?_
      refine lv_i2l S.1 S.2.1 dL_law_983 rfl ?_
      refine W.lcmp S.1 S.2.1 dL_law_984 ?_
      refine lv_if_eq (tgt := 990) S.1 S.2.1 dL_law_985 (by decide) (fun c238 => ?_) (fun c238 => ?_)
      · have h := h.1 c238
        refine W.widen (k := 654 + 2 * t28) (n := 7585 + 12 * t28) (by omega) (by omega) ?_
        exact cB_L_law_990 hl0 S hG hX hbl hbA hgh hend K28 kK28 r1 r2 r3 r4 x5 t28 μ229 H locs ls hM hS (lv_sub hl [2, 3, 4, 5, 6, 7] rfl) h
      · have h := h.2 c238
        refine lv_iconst (v := (nI 0)) S.1 S.2.1 dL_law_988 (by decide) ?_
        exact h.elim
  · have h := h.2 c232
    refine lv_iconst (v := (nI 0)) S.1 S.2.1 dL_law_971 (by decide) ?_
    exact h.elim
set_option maxRecDepth 100000 in
set_option maxHeartbeats 4000000 in
theorem cB_L_law_1065 {p : Program} {l : Launch} {e : Env} {s : State} {m : MethodId} {args : Array Value} {below : List Frame} {meth : Method} {c : Code} {Z : State → Prop} {G : mgT} {o L : Nat} {xs : Nat → Int32} (hl0 : l.stackTraces = false) (S : CallFix p m c cL_law 9 s args TT RL) (hG : GK G s s.heap) (hX : va_X o L xs s s.heap) (hbl : o < s.heap.size) (hbA : ¬ Ah G o) (hgh : gh G = s.heap.size) (hend : ∀ (pc : Nat) (H : Heap) (ls : Array Slot), decode cL_law pc = .ok (.ireturn, 1) → W p l e room_1 s m args below meth c H [] 603072 7223402 Z (F0 m pc ls [.int 1])) : ∀ (K28 : Option Nat → Option Nat → Option Nat → Option Nat → Int32 → Nat → mmT → Prop) (kK28 : ∀ (r1 : Option Nat) (r2 : Option Nat) (r3 : Option Nat) (r4 : Option Nat) (x5 : Int32) (t28 : Nat) (μ : mmT) (H : Heap) (locs : List Loc) (ls : Array Slot), Mm G μ H → va_S (Ah G) s.heap H locs → lv_has ls 9 [(0, .ref o), (1, va_rf r1), (2, va_rf r2), (3, va_rf r3), (4, va_rf r4), (5, .int x5)] → K28 r1 r2 r3 r4 x5 t28 μ → W p l e room_1 s m args below meth c H locs (652 + 2 * t28) (7573 + 12 * t28) Z (F0 m 28 ls [])) (r1 : Option Nat) (r2 : Option Nat) (r3 : Option Nat) (r4 : Option Nat) (x5 : Int32) (t28 : Nat) (μ : mmT) (H : Heap) (locs : List Loc) (ls : Array Slot), Mm G μ H → va_S (Ah G) s.heap H locs → lv_has ls 9 [(0, .ref o), (1, va_rf r1), (2, va_rf r2), (3, va_rf r3), (4, va_rf r4), (5, .int x5)] → w_L_law_b1065 G o L xs K28 r1 r2 r3 r4 x5 t28 μ → W p l e room_1 s m args below meth c H locs (654 + 2 * t28) (7585 + 12 * t28) Z (F0 m 1065 ls []) := by
  intro K28 kK28 r1 r2 r3 r4 x5 t28 μ H locs ls hM hS hl h
  unfold w_L_law_b1065 at h
  obtain ⟨ht28, h⟩ := h
  refine lv_goto (tgt := 2766) S.1 S.2.1 dL_law_1065 (by decide) ?_
  refine W.widen (k := 654 + 2 * t28) (n := 7585 + 12 * t28) (by omega) (by omega) ?_
  exact cB_L_law_2766 hl0 S hG hX hbl hbA hgh hend K28 kK28 r1 r2 r3 r4 x5 t28 μ H locs ls hM hS (lv_sub hl [0, 1, 2, 3, 4, 5] rfl) h
set_option maxRecDepth 100000 in
set_option maxHeartbeats 4000000 in
theorem cB_L_law_1059 {p : Program} {l : Launch} {e : Env} {s : State} {m : MethodId} {args : Array Value} {below : List Frame} {meth : Method} {c : Code} {Z : State → Prop} {G : mgT} {o L : Nat} {xs : Nat → Int32} (hl0 : l.stackTraces = false) (S : CallFix p m c cL_law 9 s args TT RL) (hG : GK G s s.heap) (hX : va_X o L xs s s.heap) (hbl : o < s.heap.size) (hbA : ¬ Ah G o) (hgh : gh G = s.heap.size) (hend : ∀ (pc : Nat) (H : Heap) (ls : Array Slot), decode cL_law pc = .ok (.ireturn, 1) → W p l e room_1 s m args below meth c H [] 603072 7223402 Z (F0 m pc ls [.int 1])) : ∀ (K28 : Option Nat → Option Nat → Option Nat → Option Nat → Int32 → Nat → mmT → Prop) (kK28 : ∀ (r1 : Option Nat) (r2 : Option Nat) (r3 : Option Nat) (r4 : Option Nat) (x5 : Int32) (t28 : Nat) (μ : mmT) (H : Heap) (locs : List Loc) (ls : Array Slot), Mm G μ H → va_S (Ah G) s.heap H locs → lv_has ls 9 [(0, .ref o), (1, va_rf r1), (2, va_rf r2), (3, va_rf r3), (4, va_rf r4), (5, .int x5)] → K28 r1 r2 r3 r4 x5 t28 μ → W p l e room_1 s m args below meth c H locs (652 + 2 * t28) (7573 + 12 * t28) Z (F0 m 28 ls [])) (r1 : Option Nat) (r2 : Option Nat) (r3 : Option Nat) (r4 : Option Nat) (x5 : Int32) (s0 : Int64) (s1 : Int64) (t28 : Nat) (μ : mmT) (H : Heap) (locs : List Loc) (ls : Array Slot), Mm G μ H → va_S (Ah G) s.heap H locs → lv_has ls 9 [(0, .ref o), (1, va_rf r1), (2, va_rf r2), (3, va_rf r3), (4, va_rf r4), (5, .int x5)] → w_L_law_b1059 G o L xs K28 r1 r2 r3 r4 x5 s0 s1 t28 μ → W p l e room_1 s m args below meth c H locs (654 + 2 * t28) (7585 + 12 * t28) Z (F0 m 1059 ls [.long s1, .long s0]) := by
  intro K28 kK28 r1 r2 r3 r4 x5 s0 s1 t28 μ H locs ls hM hS hl h
  unfold w_L_law_b1059 at h
  obtain ⟨ht28, h⟩ := h
  refine W.lcmp S.1 S.2.1 dL_law_1059 ?_
  refine lv_if_eq (tgt := 1065) S.1 S.2.1 dL_law_1060 (by decide) (fun c259 => ?_) (fun c259 => ?_)
  · have h := h.1 c259
    refine W.widen (k := 654 + 2 * t28) (n := 7585 + 12 * t28) (by omega) (by omega) ?_
    exact cB_L_law_1065 hl0 S hG hX hbl hbA hgh hend K28 kK28 r1 r2 r3 r4 x5 t28 μ H locs ls hM hS (lv_sub hl [0, 1, 2, 3, 4, 5] rfl) h
  · have h := h.2 c259
    refine lv_iconst (v := (nI 0)) S.1 S.2.1 dL_law_1063 (by decide) ?_
    exact h.elim
set_option maxRecDepth 100000 in
set_option maxHeartbeats 4000000 in
theorem cB_L_law_993 {p : Program} {l : Launch} {e : Env} {s : State} {m : MethodId} {args : Array Value} {below : List Frame} {meth : Method} {c : Code} {Z : State → Prop} {G : mgT} {o L : Nat} {xs : Nat → Int32} (hl0 : l.stackTraces = false) (S : CallFix p m c cL_law 9 s args TT RL) (hG : GK G s s.heap) (hX : va_X o L xs s s.heap) (hbl : o < s.heap.size) (hbA : ¬ Ah G o) (hgh : gh G = s.heap.size) (hend : ∀ (pc : Nat) (H : Heap) (ls : Array Slot), decode cL_law pc = .ok (.ireturn, 1) → W p l e room_1 s m args below meth c H [] 603072 7223402 Z (F0 m pc ls [.int 1])) : ∀ (K28 : Option Nat → Option Nat → Option Nat → Option Nat → Int32 → Nat → mmT → Prop) (kK28 : ∀ (r1 : Option Nat) (r2 : Option Nat) (r3 : Option Nat) (r4 : Option Nat) (x5 : Int32) (t28 : Nat) (μ : mmT) (H : Heap) (locs : List Loc) (ls : Array Slot), Mm G μ H → va_S (Ah G) s.heap H locs → lv_has ls 9 [(0, .ref o), (1, va_rf r1), (2, va_rf r2), (3, va_rf r3), (4, va_rf r4), (5, .int x5)] → K28 r1 r2 r3 r4 x5 t28 μ → W p l e room_1 s m args below meth c H locs (652 + 2 * t28) (7573 + 12 * t28) Z (F0 m 28 ls [])) (r1 : Option Nat) (r2 : Option Nat) (r3 : Option Nat) (r4 : Option Nat) (x5 : Int32) (t28 : Nat) (μ : mmT) (H : Heap) (locs : List Loc) (ls : Array Slot), Mm G μ H → va_S (Ah G) s.heap H locs → lv_has ls 9 [(0, .ref o), (1, va_rf r1), (2, va_rf r2), (3, va_rf r3), (4, va_rf r4), (5, .int x5)] → w_L_law_b993 G o L xs K28 r1 r2 r3 r4 x5 t28 μ → W p l e room_1 s m args below meth c H locs (652 + 2 * t28) (7573 + 12 * t28) Z (F0 m 993 ls []) := by
  intro K28 kK28 r1 r2 r3 r4 x5 t28 μ H locs ls hM hS hl h
  unfold w_L_law_b993 at h
  obtain ⟨ht28, h⟩ := h
  refine mz_aload_n (x := r1) S.1 S.2.1 dL_law_993 rfl (lv_at hl 1 rfl) ?_
  refine lv_aload_n S.1 S.2.1 dL_law_994 rfl (lv_at hl 0 rfl) ?_
  refine lv_iload S.1 S.2.1 dL_law_995 (lv_at hl 5 rfl) ?_
  refine lv_iconst (v := (nI 1)) S.1 S.2.1 dL_law_997 (by decide) ?_
  refine lv_iadd S.1 S.2.1 dL_law_998 ?_
  obtain ⟨b239, h⟩ := h
  refine va_sld S.1 S.2.1 hX hbl hbA hS b239 dL_law_999 ?_
  refine lv_aload_n S.1 S.2.1 dL_law_1000 rfl (lv_at hl 0 rfl) ?_
  refine lv_iload S.1 S.2.1 dL_law_1001 (lv_at hl 5 rfl) ?_
  refine lv_iconst (v := (nI 2)) S.1 S.2.1 dL_law_1003 (by decide) ?_
  refine lv_iadd S.1 S.2.1 dL_law_1004 ?_
  obtain ⟨b240, h⟩ := h
  refine va_sld S.1 S.2.1 hX hbl hbA hS b240 dL_law_1005 ?_
  refine mz_aload_n (x := r3) S.1 S.2.1 dL_law_1006 rfl (lv_at hl 3 rfl) ?_
  refine mz_SH S hG hM hS (As := [va_rf r1, .int (xs (x5 + (nI 1)).toNatClampNeg), .int (xs (x5 + (nI 2)).toNatClampNeg), va_rf r3]) (rest := []) (c_L_remembers hl0 h) yh_L_remembers tw_1113 tw_1114 ⟨Nat.le_of_ble_eq_true rfl, Nat.le_of_ble_eq_true rfl⟩ ⟨(by show (652 + 2 * t28) + 1 ≤ 603072; omega), (by show (7573 + 12 * t28) + 6 ≤ 7223402; omega)⟩ rfl hl.1 rfl (Nat.le_of_ble_eq_true rfl) dL_law_1007 (fun v9 μ242 H locs hp hM hS => ?_)
  obtain ⟨u241, rfl, h⟩ := hp
  refine W.cs (cells' := 653 + 2 * t28) (slots' := 7579 + 12 * t28) (by first | omega | (dsimp only; omega)) (by first | omega | (dsimp only; omega)) ?_
  refine lv_istore (lv' := [(6, .int u241), (0, .ref o), (1, va_rf r1), (2, va_rf r2), (3, va_rf r3), (4, va_rf r4), (5, .int x5)]) S.1 S.2.1 dL_law_1010 hl (by decide) rfl (fun ls hl => ?_)
  refine mz_aload_n (x := r2) S.1 S.2.1 dL_law_1012 rfl (lv_at hl 3 rfl) ?_
  refine lv_aload_n S.1 S.2.1 dL_law_1013 rfl (lv_at hl 1 rfl) ?_
  refine lv_iload S.1 S.2.1 dL_law_1014 (lv_at hl 6 rfl) ?_
  refine lv_iconst (v := (nI 1)) S.1 S.2.1 dL_law_1016 (by decide) ?_
  refine lv_iadd S.1 S.2.1 dL_law_1017 ?_
  obtain ⟨b243, h⟩ := h
  refine va_sld S.1 S.2.1 hX hbl hbA hS b243 dL_law_1018 ?_
  refine lv_aload_n S.1 S.2.1 dL_law_1019 rfl (lv_at hl 1 rfl) ?_
  refine lv_iload S.1 S.2.1 dL_law_1020 (lv_at hl 6 rfl) ?_
  refine lv_iconst (v := (nI 2)) S.1 S.2.1 dL_law_1022 (by decide) ?_
  refine lv_iadd S.1 S.2.1 dL_law_1023 ?_
  obtain ⟨b244, h⟩ := h
  refine va_sld S.1 S.2.1 hX hbl hbA hS b244 dL_law_1024 ?_
  obtain ⟨a245, e246, h⟩ := h
  refine mz_o2 e246 ?_
  obtain ⟨k247, h⟩ := h
  refine mz_V S hG hM hS cf_10 k247 (As := [.int (xs (x5 + (nI 1)).toNatClampNeg), .int (xs (x5 + (nI 2)).toNatClampNeg)]) (rest := []) (c_X11_remembers h) yf_X11_remembers tw_1710 tw_1711 tw_1712 ⟨Nat.le_of_ble_eq_true rfl, Nat.le_of_ble_eq_true rfl⟩ ⟨(by show (653 + 2 * t28) + 0 ≤ 603072; omega), (by show (7579 + 12 * t28) + 0 ≤ 7223402; omega)⟩ rfl hl.1 rfl (Nat.le_of_ble_eq_true rfl) dL_law_1025 (fun v9 μ249 H locs hp hM hS => ?_)
  obtain ⟨u248, rfl, h⟩ := hp
  refine W.cs (cells' := 653 + 2 * t28) (slots' := 7579 + 12 * t28) (by first | omega | (dsimp only; omega)) (by first | omega | (dsimp only; omega)) ?_
  refine lv_istore (lv' := [(7, .int u248), (6, .int u241), (0, .ref o), (1, va_rf r1), (2, va_rf r2), (3, va_rf r3), (4, va_rf r4), (5, .int x5)]) S.1 S.2.1 dL_law_1028 hl (by decide) rfl (fun ls hl => ?_)
  refine mz_aload_n (x := r2) S.1 S.2.1 dL_law_1030 rfl (lv_at hl 4 rfl) ?_
  refine mz_o0 e246 ?_
  obtain ⟨k250, h⟩ := h
  refine mz_V S hG hM hS cf_10 k250 (As := []) (rest := []) (c_X11_thrown h) yf_X11_thrown tw_1543 tw_1544 tw_1545 ⟨Nat.le_of_ble_eq_true rfl, Nat.le_of_ble_eq_true rfl⟩ ⟨(by show (653 + 2 * t28) + 0 ≤ 603072; omega), (by show (7579 + 12 * t28) + 0 ≤ 7223402; omega)⟩ rfl hl.1 rfl (Nat.le_of_ble_eq_true rfl) dL_law_1031 (fun v9 μ9 H locs hp hM hS => ?_)
  obtain ⟨u251, rfl, e9, h⟩ := hp
  rw [e9] at hM
  refine W.cs (cells' := 653 + 2 * t28) (slots' := 7579 + 12 * t28) (by first | omega | (dsimp only; omega)) (by first | omega | (dsimp only; omega)) ?_
  refine lv_iload S.1 S.2.1 dL_law_1034 (lv_at hl 1 rfl) ?_
  refine lv_icmp_eq (tgt := 1041) S.1 S.2.1 dL_law_1036 (by decide) (fun c252 => ?_) (fun c252 => ?_)
  · have h := h.1 c252
    refine lv_iload S.1 S.2.1 dL_law_1041 (lv_at hl 1 rfl) ?_
    refine lv_if_ne (tgt := 1065) S.1 S.2.1 dL_law_1043 (by decide) (fun c253 => ?_) (fun c253 => ?_)
    · have h := h.1 c253
      refine W.widen (k := 654 + 2 * t28) (n := 7585 + 12 * t28) (by omega) (by omega) ?_
      exact cB_L_law_1065 hl0 S hG hX hbl hbA hgh hend K28 kK28 r1 r2 r3 r4 x5 t28 μ249 H locs ls hM hS (lv_sub hl [2, 3, 4, 5, 6, 7] rfl) h
    · have h := h.2 c253
      refine mz_aload_n (x := r3) S.1 S.2.1 dL_law_1046 rfl (lv_at hl 5 rfl) ?_
      refine lv_iconst (v := (nI 0)) S.1 S.2.1 dL_law_1047 (by decide) ?_
      obtain ⟨a254, e255, h⟩ := h
      refine mz_o1 e255 ?_
      obtain ⟨k256, h⟩ := h
      obtain ⟨b257, h⟩ := h
      refine mz_lald S hG hM dL_law_1048 k256 b257 ?_
      refine lv_iload S.1 S.2.1 dL_law_1049 (lv_at hl 0 rfl) ?_
      refine lv_if_eq (tgt := 1058) S.1 S.2.1 dL_law_1051 (by decide) (fun c258 => ?_) (fun c258 => ?_)
      · have h := h.1 c258
        refine lv_lconst (v := lN 0) S.1 S.2.1 dL_law_1058 rfl ?_
        refine W.widen (k := 654 + 2 * t28) (n := 7585 + 12 * t28) (by omega) (by omega) ?_
        exact cB_L_law_1059 hl0 S hG hX hbl hbA hgh hend K28 kK28 r1 r2 r3 r4 x5 (mL μ249 a254 (nI 0).toNatClampNeg) (lN 0) t28 μ249 H locs ls hM hS (lv_sub hl [2, 3, 4, 5, 6, 7] rfl) h
      · have h := h.2 c258
        refine lv_lconst (v := lN 1) S.1 S.2.1 dL_law_1054 rfl ?_
        refine lv_goto (tgt := 1059) S.1 S.2.1 dL_law_1055 (by decide) ?_
        refine W.widen (k := 654 + 2 * t28) (n := 7585 + 12 * t28) (by omega) (by omega) ?_
        exact cB_L_law_1059 hl0 S hG hX hbl hbA hgh hend K28 kK28 r1 r2 r3 r4 x5 (mL μ249 a254 (nI 0).toNatClampNeg) (lN 1) t28 μ249 H locs ls hM hS (lv_sub hl [2, 3, 4, 5, 6, 7] rfl) h
  · have h := h.2 c252
    refine lv_iconst (v := (nI 0)) S.1 S.2.1 dL_law_1039 (by decide) ?_
    exact h.elim
set_option maxRecDepth 100000 in
set_option maxHeartbeats 4000000 in
theorem cB_L_law_1121 {p : Program} {l : Launch} {e : Env} {s : State} {m : MethodId} {args : Array Value} {below : List Frame} {meth : Method} {c : Code} {Z : State → Prop} {G : mgT} {o L : Nat} {xs : Nat → Int32} (hl0 : l.stackTraces = false) (S : CallFix p m c cL_law 9 s args TT RL) (hG : GK G s s.heap) (hX : va_X o L xs s s.heap) (hbl : o < s.heap.size) (hbA : ¬ Ah G o) (hgh : gh G = s.heap.size) (hend : ∀ (pc : Nat) (H : Heap) (ls : Array Slot), decode cL_law pc = .ok (.ireturn, 1) → W p l e room_1 s m args below meth c H [] 603072 7223402 Z (F0 m pc ls [.int 1])) : ∀ (K28 : Option Nat → Option Nat → Option Nat → Option Nat → Int32 → Nat → mmT → Prop) (kK28 : ∀ (r1 : Option Nat) (r2 : Option Nat) (r3 : Option Nat) (r4 : Option Nat) (x5 : Int32) (t28 : Nat) (μ : mmT) (H : Heap) (locs : List Loc) (ls : Array Slot), Mm G μ H → va_S (Ah G) s.heap H locs → lv_has ls 9 [(0, .ref o), (1, va_rf r1), (2, va_rf r2), (3, va_rf r3), (4, va_rf r4), (5, .int x5)] → K28 r1 r2 r3 r4 x5 t28 μ → W p l e room_1 s m args below meth c H locs (652 + 2 * t28) (7573 + 12 * t28) Z (F0 m 28 ls [])) (r1 : Option Nat) (r2 : Option Nat) (r3 : Option Nat) (r4 : Option Nat) (x5 : Int32) (t28 : Nat) (μ : mmT) (H : Heap) (locs : List Loc) (ls : Array Slot), Mm G μ H → va_S (Ah G) s.heap H locs → lv_has ls 9 [(0, .ref o), (1, va_rf r1), (2, va_rf r2), (3, va_rf r3), (4, va_rf r4), (5, .int x5)] → w_L_law_b1121 G o L xs K28 r1 r2 r3 r4 x5 t28 μ → W p l e room_1 s m args below meth c H locs (654 + 2 * t28) (7585 + 12 * t28) Z (F0 m 1121 ls []) := by
  intro K28 kK28 r1 r2 r3 r4 x5 t28 μ H locs ls hM hS hl h
  unfold w_L_law_b1121 at h
  obtain ⟨ht28, h⟩ := h
  refine lv_goto (tgt := 2766) S.1 S.2.1 dL_law_1121 (by decide) ?_
  refine W.widen (k := 654 + 2 * t28) (n := 7585 + 12 * t28) (by omega) (by omega) ?_
  exact cB_L_law_2766 hl0 S hG hX hbl hbA hgh hend K28 kK28 r1 r2 r3 r4 x5 t28 μ H locs ls hM hS (lv_sub hl [0, 1, 2, 3, 4, 5] rfl) h
set_option maxRecDepth 100000 in
set_option maxHeartbeats 4000000 in
theorem cB_L_law_1068 {p : Program} {l : Launch} {e : Env} {s : State} {m : MethodId} {args : Array Value} {below : List Frame} {meth : Method} {c : Code} {Z : State → Prop} {G : mgT} {o L : Nat} {xs : Nat → Int32} (hl0 : l.stackTraces = false) (S : CallFix p m c cL_law 9 s args TT RL) (hG : GK G s s.heap) (hX : va_X o L xs s s.heap) (hbl : o < s.heap.size) (hbA : ¬ Ah G o) (hgh : gh G = s.heap.size) (hend : ∀ (pc : Nat) (H : Heap) (ls : Array Slot), decode cL_law pc = .ok (.ireturn, 1) → W p l e room_1 s m args below meth c H [] 603072 7223402 Z (F0 m pc ls [.int 1])) : ∀ (K28 : Option Nat → Option Nat → Option Nat → Option Nat → Int32 → Nat → mmT → Prop) (kK28 : ∀ (r1 : Option Nat) (r2 : Option Nat) (r3 : Option Nat) (r4 : Option Nat) (x5 : Int32) (t28 : Nat) (μ : mmT) (H : Heap) (locs : List Loc) (ls : Array Slot), Mm G μ H → va_S (Ah G) s.heap H locs → lv_has ls 9 [(0, .ref o), (1, va_rf r1), (2, va_rf r2), (3, va_rf r3), (4, va_rf r4), (5, .int x5)] → K28 r1 r2 r3 r4 x5 t28 μ → W p l e room_1 s m args below meth c H locs (652 + 2 * t28) (7573 + 12 * t28) Z (F0 m 28 ls [])) (r1 : Option Nat) (r2 : Option Nat) (r3 : Option Nat) (r4 : Option Nat) (x5 : Int32) (t28 : Nat) (μ : mmT) (H : Heap) (locs : List Loc) (ls : Array Slot), Mm G μ H → va_S (Ah G) s.heap H locs → lv_has ls 9 [(0, .ref o), (1, va_rf r1), (2, va_rf r2), (3, va_rf r3), (4, va_rf r4), (5, .int x5)] → w_L_law_b1068 G o L xs K28 r1 r2 r3 r4 x5 t28 μ → W p l e room_1 s m args below meth c H locs (652 + 2 * t28) (7573 + 12 * t28) Z (F0 m 1068 ls []) := by
  intro K28 kK28 r1 r2 r3 r4 x5 t28 μ H locs ls hM hS hl h
  unfold w_L_law_b1068 at h
  obtain ⟨ht28, h⟩ := h
  refine mz_aload_n (x := r1) S.1 S.2.1 dL_law_1068 rfl (lv_at hl 1 rfl) ?_
  refine lv_aload_n S.1 S.2.1 dL_law_1069 rfl (lv_at hl 0 rfl) ?_
  refine lv_iload S.1 S.2.1 dL_law_1070 (lv_at hl 5 rfl) ?_
  refine lv_iconst (v := (nI 1)) S.1 S.2.1 dL_law_1072 (by decide) ?_
  refine lv_iadd S.1 S.2.1 dL_law_1073 ?_
  obtain ⟨b260, h⟩ := h
  refine va_sld S.1 S.2.1 hX hbl hbA hS b260 dL_law_1074 ?_
  refine mz_aload_n (x := r3) S.1 S.2.1 dL_law_1075 rfl (lv_at hl 3 rfl) ?_
  refine mz_SH S hG hM hS (As := [va_rf r1, .int (xs (x5 + (nI 1)).toNatClampNeg), va_rf r3]) (rest := []) (c_L_rememberedCount hl0 h) yh_L_rememberedCount tw_1121 tw_1122 ⟨Nat.le_of_ble_eq_true rfl, Nat.le_of_ble_eq_true rfl⟩ ⟨(by show (652 + 2 * t28) + 1 ≤ 603072; omega), (by show (7573 + 12 * t28) + 6 ≤ 7223402; omega)⟩ rfl hl.1 rfl (Nat.le_of_ble_eq_true rfl) dL_law_1076 (fun v9 μ262 H locs hp hM hS => ?_)
  obtain ⟨u261, rfl, h⟩ := hp
  refine W.cs (cells' := 653 + 2 * t28) (slots' := 7579 + 12 * t28) (by first | omega | (dsimp only; omega)) (by first | omega | (dsimp only; omega)) ?_
  refine lv_istore (lv' := [(6, .int u261), (0, .ref o), (1, va_rf r1), (2, va_rf r2), (3, va_rf r3), (4, va_rf r4), (5, .int x5)]) S.1 S.2.1 dL_law_1079 hl (by decide) rfl (fun ls hl => ?_)
  refine mz_aload_n (x := r2) S.1 S.2.1 dL_law_1081 rfl (lv_at hl 3 rfl) ?_
  refine lv_aload_n S.1 S.2.1 dL_law_1082 rfl (lv_at hl 1 rfl) ?_
  refine lv_iload S.1 S.2.1 dL_law_1083 (lv_at hl 6 rfl) ?_
  refine lv_iconst (v := (nI 1)) S.1 S.2.1 dL_law_1085 (by decide) ?_
  refine lv_iadd S.1 S.2.1 dL_law_1086 ?_
  obtain ⟨b263, h⟩ := h
  refine va_sld S.1 S.2.1 hX hbl hbA hS b263 dL_law_1087 ?_
  obtain ⟨a264, e265, h⟩ := h
  refine mz_o1 e265 ?_
  obtain ⟨k266, h⟩ := h
  refine mz_V S hG hM hS cf_10 k266 (As := [.int (xs (x5 + (nI 1)).toNatClampNeg)]) (rest := []) (c_X11_rememberedCount h) yf_X11_rememberedCount tw_1714 tw_1715 tw_1716 ⟨Nat.le_of_ble_eq_true rfl, Nat.le_of_ble_eq_true rfl⟩ ⟨(by show (653 + 2 * t28) + 0 ≤ 603072; omega), (by show (7579 + 12 * t28) + 0 ≤ 7223402; omega)⟩ rfl hl.1 rfl (Nat.le_of_ble_eq_true rfl) dL_law_1088 (fun v9 μ268 H locs hp hM hS => ?_)
  obtain ⟨u267, rfl, h⟩ := hp
  refine W.cs (cells' := 653 + 2 * t28) (slots' := 7579 + 12 * t28) (by first | omega | (dsimp only; omega)) (by first | omega | (dsimp only; omega)) ?_
  refine lv_istore (lv' := [(7, .int u267), (6, .int u261), (0, .ref o), (1, va_rf r1), (2, va_rf r2), (3, va_rf r3), (4, va_rf r4), (5, .int x5)]) S.1 S.2.1 dL_law_1091 hl (by decide) rfl (fun ls hl => ?_)
  refine mz_aload_n (x := r2) S.1 S.2.1 dL_law_1093 rfl (lv_at hl 4 rfl) ?_
  refine mz_o0 e265 ?_
  obtain ⟨k269, h⟩ := h
  refine mz_V S hG hM hS cf_10 k269 (As := []) (rest := []) (c_X11_thrown h) yf_X11_thrown tw_1543 tw_1544 tw_1545 ⟨Nat.le_of_ble_eq_true rfl, Nat.le_of_ble_eq_true rfl⟩ ⟨(by show (653 + 2 * t28) + 0 ≤ 603072; omega), (by show (7579 + 12 * t28) + 0 ≤ 7223402; omega)⟩ rfl hl.1 rfl (Nat.le_of_ble_eq_true rfl) dL_law_1094 (fun v9 μ9 H locs hp hM hS => ?_)
  obtain ⟨u270, rfl, e9, h⟩ := hp
  rw [e9] at hM
  refine W.cs (cells' := 653 + 2 * t28) (slots' := 7579 + 12 * t28) (by first | omega | (dsimp only; omega)) (by first | omega | (dsimp only; omega)) ?_
  refine lv_iload S.1 S.2.1 dL_law_1097 (lv_at hl 1 rfl) ?_
  refine lv_icmp_eq (tgt := 1104) S.1 S.2.1 dL_law_1099 (by decide) (fun c271 => ?_) (fun c271 => ?_)
  · have h := h.1 c271
    refine lv_iload S.1 S.2.1 dL_law_1104 (lv_at hl 1 rfl) ?_
    refine lv_if_ne (tgt := 1121) S.1 S.2.1 dL_law_1106 (by decide) (fun c272 => ?_) (fun c272 => ?_)
    · have h := h.1 c272
      refine W.widen (k := 654 + 2 * t28) (n := 7585 + 12 * t28) (by omega) (by omega) ?_
      exact cB_L_law_1121 hl0 S hG hX hbl hbA hgh hend K28 kK28 r1 r2 r3 r4 x5 t28 μ268 H locs ls hM hS (lv_sub hl [2, 3, 4, 5, 6, 7] rfl) h
    · have h := h.2 c272
      refine mz_aload_n (x := r3) S.1 S.2.1 dL_law_1109 rfl (lv_at hl 5 rfl) ?_
      refine lv_iconst (v := (nI 0)) S.1 S.2.1 dL_law_1110 (by decide) ?_
      obtain ⟨a273, e274, h⟩ := h
      refine mz_o1 e274 ?_
      obtain ⟨k275, h⟩ := h
      obtain ⟨b276, h⟩ := h
      refine mz_lald S hG hM dL_law_1111 k275 b276 ?_
      refine lv_iload S.1 S.2.1 dL_law_1112 (lv_at hl 0 rfl) ?_
      refine lv_i2l S.1 S.2.1 dL_law_1114 rfl ?_
      refine W.lcmp S.1 S.2.1 dL_law_1115 ?_
      refine lv_if_eq (tgt := 1121) S.1 S.2.1 dL_law_1116 (by decide) (fun c277 => ?_) (fun c277 => ?_)
      · have h := h.1 c277
        refine W.widen (k := 654 + 2 * t28) (n := 7585 + 12 * t28) (by omega) (by omega) ?_
        exact cB_L_law_1121 hl0 S hG hX hbl hbA hgh hend K28 kK28 r1 r2 r3 r4 x5 t28 μ268 H locs ls hM hS (lv_sub hl [2, 3, 4, 5, 6, 7] rfl) h
      · have h := h.2 c277
        refine lv_iconst (v := (nI 0)) S.1 S.2.1 dL_law_1119 (by decide) ?_
        exact h.elim
  · have h := h.2 c271
    refine lv_iconst (v := (nI 0)) S.1 S.2.1 dL_law_1102 (by decide) ?_
    exact h.elim
set_option maxRecDepth 100000 in
set_option maxHeartbeats 4000000 in
theorem cB_L_law_1177 {p : Program} {l : Launch} {e : Env} {s : State} {m : MethodId} {args : Array Value} {below : List Frame} {meth : Method} {c : Code} {Z : State → Prop} {G : mgT} {o L : Nat} {xs : Nat → Int32} (hl0 : l.stackTraces = false) (S : CallFix p m c cL_law 9 s args TT RL) (hG : GK G s s.heap) (hX : va_X o L xs s s.heap) (hbl : o < s.heap.size) (hbA : ¬ Ah G o) (hgh : gh G = s.heap.size) (hend : ∀ (pc : Nat) (H : Heap) (ls : Array Slot), decode cL_law pc = .ok (.ireturn, 1) → W p l e room_1 s m args below meth c H [] 603072 7223402 Z (F0 m pc ls [.int 1])) : ∀ (K28 : Option Nat → Option Nat → Option Nat → Option Nat → Int32 → Nat → mmT → Prop) (kK28 : ∀ (r1 : Option Nat) (r2 : Option Nat) (r3 : Option Nat) (r4 : Option Nat) (x5 : Int32) (t28 : Nat) (μ : mmT) (H : Heap) (locs : List Loc) (ls : Array Slot), Mm G μ H → va_S (Ah G) s.heap H locs → lv_has ls 9 [(0, .ref o), (1, va_rf r1), (2, va_rf r2), (3, va_rf r3), (4, va_rf r4), (5, .int x5)] → K28 r1 r2 r3 r4 x5 t28 μ → W p l e room_1 s m args below meth c H locs (652 + 2 * t28) (7573 + 12 * t28) Z (F0 m 28 ls [])) (r1 : Option Nat) (r2 : Option Nat) (r3 : Option Nat) (r4 : Option Nat) (x5 : Int32) (t28 : Nat) (μ : mmT) (H : Heap) (locs : List Loc) (ls : Array Slot), Mm G μ H → va_S (Ah G) s.heap H locs → lv_has ls 9 [(0, .ref o), (1, va_rf r1), (2, va_rf r2), (3, va_rf r3), (4, va_rf r4), (5, .int x5)] → w_L_law_b1177 G o L xs K28 r1 r2 r3 r4 x5 t28 μ → W p l e room_1 s m args below meth c H locs (654 + 2 * t28) (7585 + 12 * t28) Z (F0 m 1177 ls []) := by
  intro K28 kK28 r1 r2 r3 r4 x5 t28 μ H locs ls hM hS hl h
  unfold w_L_law_b1177 at h
  obtain ⟨ht28, h⟩ := h
  refine lv_goto (tgt := 2766) S.1 S.2.1 dL_law_1177 (by decide) ?_
  refine W.widen (k := 654 + 2 * t28) (n := 7585 + 12 * t28) (by omega) (by omega) ?_
  exact cB_L_law_2766 hl0 S hG hX hbl hbA hgh hend K28 kK28 r1 r2 r3 r4 x5 t28 μ H locs ls hM hS (lv_sub hl [0, 1, 2, 3, 4, 5] rfl) h
set_option maxRecDepth 100000 in
set_option maxHeartbeats 4000000 in
theorem cB_L_law_1124 {p : Program} {l : Launch} {e : Env} {s : State} {m : MethodId} {args : Array Value} {below : List Frame} {meth : Method} {c : Code} {Z : State → Prop} {G : mgT} {o L : Nat} {xs : Nat → Int32} (hl0 : l.stackTraces = false) (S : CallFix p m c cL_law 9 s args TT RL) (hG : GK G s s.heap) (hX : va_X o L xs s s.heap) (hbl : o < s.heap.size) (hbA : ¬ Ah G o) (hgh : gh G = s.heap.size) (hend : ∀ (pc : Nat) (H : Heap) (ls : Array Slot), decode cL_law pc = .ok (.ireturn, 1) → W p l e room_1 s m args below meth c H [] 603072 7223402 Z (F0 m pc ls [.int 1])) : ∀ (K28 : Option Nat → Option Nat → Option Nat → Option Nat → Int32 → Nat → mmT → Prop) (kK28 : ∀ (r1 : Option Nat) (r2 : Option Nat) (r3 : Option Nat) (r4 : Option Nat) (x5 : Int32) (t28 : Nat) (μ : mmT) (H : Heap) (locs : List Loc) (ls : Array Slot), Mm G μ H → va_S (Ah G) s.heap H locs → lv_has ls 9 [(0, .ref o), (1, va_rf r1), (2, va_rf r2), (3, va_rf r3), (4, va_rf r4), (5, .int x5)] → K28 r1 r2 r3 r4 x5 t28 μ → W p l e room_1 s m args below meth c H locs (652 + 2 * t28) (7573 + 12 * t28) Z (F0 m 28 ls [])) (r1 : Option Nat) (r2 : Option Nat) (r3 : Option Nat) (r4 : Option Nat) (x5 : Int32) (t28 : Nat) (μ : mmT) (H : Heap) (locs : List Loc) (ls : Array Slot), Mm G μ H → va_S (Ah G) s.heap H locs → lv_has ls 9 [(0, .ref o), (1, va_rf r1), (2, va_rf r2), (3, va_rf r3), (4, va_rf r4), (5, .int x5)] → w_L_law_b1124 G o L xs K28 r1 r2 r3 r4 x5 t28 μ → W p l e room_1 s m args below meth c H locs (652 + 2 * t28) (7573 + 12 * t28) Z (F0 m 1124 ls []) := by
  intro K28 kK28 r1 r2 r3 r4 x5 t28 μ H locs ls hM hS hl h
  unfold w_L_law_b1124 at h
  obtain ⟨ht28, h⟩ := h
  refine mz_aload_n (x := r1) S.1 S.2.1 dL_law_1124 rfl (lv_at hl 1 rfl) ?_
  refine lv_aload_n S.1 S.2.1 dL_law_1125 rfl (lv_at hl 0 rfl) ?_
  refine lv_iload S.1 S.2.1 dL_law_1126 (lv_at hl 5 rfl) ?_
  refine lv_iconst (v := (nI 1)) S.1 S.2.1 dL_law_1128 (by decide) ?_
  refine lv_iadd S.1 S.2.1 dL_law_1129 ?_
  obtain ⟨b278, h⟩ := h
  refine va_sld S.1 S.2.1 hX hbl hbA hS b278 dL_law_1130 ?_
  refine mz_aload_n (x := r3) S.1 S.2.1 dL_law_1131 rfl (lv_at hl 3 rfl) ?_
  refine mz_SH S hG hM hS (As := [va_rf r1, .int (xs (x5 + (nI 1)).toNatClampNeg), va_rf r3]) (rest := []) (c_L_nestByDeliveries hl0 h) yh_L_nestByDeliveries tw_1128 tw_1129 ⟨Nat.le_of_ble_eq_true rfl, Nat.le_of_ble_eq_true rfl⟩ ⟨(by show (652 + 2 * t28) + 1 ≤ 603072; omega), (by show (7573 + 12 * t28) + 6 ≤ 7223402; omega)⟩ rfl hl.1 rfl (Nat.le_of_ble_eq_true rfl) dL_law_1132 (fun v9 μ280 H locs hp hM hS => ?_)
  obtain ⟨u279, rfl, h⟩ := hp
  refine W.cs (cells' := 653 + 2 * t28) (slots' := 7579 + 12 * t28) (by first | omega | (dsimp only; omega)) (by first | omega | (dsimp only; omega)) ?_
  refine lv_istore (lv' := [(6, .int u279), (0, .ref o), (1, va_rf r1), (2, va_rf r2), (3, va_rf r3), (4, va_rf r4), (5, .int x5)]) S.1 S.2.1 dL_law_1135 hl (by decide) rfl (fun ls hl => ?_)
  refine mz_aload_n (x := r2) S.1 S.2.1 dL_law_1137 rfl (lv_at hl 3 rfl) ?_
  refine lv_aload_n S.1 S.2.1 dL_law_1138 rfl (lv_at hl 1 rfl) ?_
  refine lv_iload S.1 S.2.1 dL_law_1139 (lv_at hl 6 rfl) ?_
  refine lv_iconst (v := (nI 1)) S.1 S.2.1 dL_law_1141 (by decide) ?_
  refine lv_iadd S.1 S.2.1 dL_law_1142 ?_
  obtain ⟨b281, h⟩ := h
  refine va_sld S.1 S.2.1 hX hbl hbA hS b281 dL_law_1143 ?_
  obtain ⟨a282, e283, h⟩ := h
  refine mz_o1 e283 ?_
  obtain ⟨k284, h⟩ := h
  refine mz_V S hG hM hS cf_10 k284 (As := [.int (xs (x5 + (nI 1)).toNatClampNeg)]) (rest := []) (c_X11_nestByDeliveries h) yf_X11_nestByDeliveries tw_1718 tw_1719 tw_1720 ⟨Nat.le_of_ble_eq_true rfl, Nat.le_of_ble_eq_true rfl⟩ ⟨(by show (653 + 2 * t28) + 0 ≤ 603072; omega), (by show (7579 + 12 * t28) + 0 ≤ 7223402; omega)⟩ rfl hl.1 rfl (Nat.le_of_ble_eq_true rfl) dL_law_1144 (fun v9 μ286 H locs hp hM hS => ?_)
  obtain ⟨u285, rfl, h⟩ := hp
  refine W.cs (cells' := 653 + 2 * t28) (slots' := 7579 + 12 * t28) (by first | omega | (dsimp only; omega)) (by first | omega | (dsimp only; omega)) ?_
  refine lv_istore (lv' := [(7, .int u285), (6, .int u279), (0, .ref o), (1, va_rf r1), (2, va_rf r2), (3, va_rf r3), (4, va_rf r4), (5, .int x5)]) S.1 S.2.1 dL_law_1147 hl (by decide) rfl (fun ls hl => ?_)
  refine mz_aload_n (x := r2) S.1 S.2.1 dL_law_1149 rfl (lv_at hl 4 rfl) ?_
  refine mz_o0 e283 ?_
  obtain ⟨k287, h⟩ := h
  refine mz_V S hG hM hS cf_10 k287 (As := []) (rest := []) (c_X11_thrown h) yf_X11_thrown tw_1543 tw_1544 tw_1545 ⟨Nat.le_of_ble_eq_true rfl, Nat.le_of_ble_eq_true rfl⟩ ⟨(by show (653 + 2 * t28) + 0 ≤ 603072; omega), (by show (7579 + 12 * t28) + 0 ≤ 7223402; omega)⟩ rfl hl.1 rfl (Nat.le_of_ble_eq_true rfl) dL_law_1150 (fun v9 μ9 H locs hp hM hS => ?_)
  obtain ⟨u288, rfl, e9, h⟩ := hp
  rw [e9] at hM
  refine W.cs (cells' := 653 + 2 * t28) (slots' := 7579 + 12 * t28) (by first | omega | (dsimp only; omega)) (by first | omega | (dsimp only; omega)) ?_
  refine lv_iload S.1 S.2.1 dL_law_1153 (lv_at hl 1 rfl) ?_
  refine lv_icmp_eq (tgt := 1160) S.1 S.2.1 dL_law_1155 (by decide) (fun c289 => ?_) (fun c289 => ?_)
  · have h := h.1 c289
    refine lv_iload S.1 S.2.1 dL_law_1160 (lv_at hl 1 rfl) ?_
    refine lv_if_ne (tgt := 1177) S.1 S.2.1 dL_law_1162 (by decide) (fun c290 => ?_) (fun c290 => ?_)
    · have h := h.1 c290
      refine W.widen (k := 654 + 2 * t28) (n := 7585 + 12 * t28) (by omega) (by omega) ?_
      exact cB_L_law_1177 hl0 S hG hX hbl hbA hgh hend K28 kK28 r1 r2 r3 r4 x5 t28 μ286 H locs ls hM hS (lv_sub hl [2, 3, 4, 5, 6, 7] rfl) h
    · have h := h.2 c290
      refine mz_aload_n (x := r3) S.1 S.2.1 dL_law_1165 rfl (lv_at hl 5 rfl) ?_
      refine lv_iconst (v := (nI 0)) S.1 S.2.1 dL_law_1166 (by decide) ?_
      obtain ⟨a291, e292, h⟩ := h
      refine mz_o1 e292 ?_
      obtain ⟨k293, h⟩ := h
      obtain ⟨b294, h⟩ := h
      refine mz_lald S hG hM dL_law_1167 k293 b294 ?_
      refine lv_iload S.1 S.2.1 dL_law_1168 (lv_at hl 0 rfl) ?_
      refine lv_i2l S.1 S.2.1 dL_law_1170 rfl ?_
      refine W.lcmp S.1 S.2.1 dL_law_1171 ?_
      refine lv_if_eq (tgt := 1177) S.1 S.2.1 dL_law_1172 (by decide) (fun c295 => ?_) (fun c295 => ?_)
      · have h := h.1 c295
        refine W.widen (k := 654 + 2 * t28) (n := 7585 + 12 * t28) (by omega) (by omega) ?_
        exact cB_L_law_1177 hl0 S hG hX hbl hbA hgh hend K28 kK28 r1 r2 r3 r4 x5 t28 μ286 H locs ls hM hS (lv_sub hl [2, 3, 4, 5, 6, 7] rfl) h
      · have h := h.2 c295
        refine lv_iconst (v := (nI 0)) S.1 S.2.1 dL_law_1175 (by decide) ?_
        exact h.elim
  · have h := h.2 c289
    refine lv_iconst (v := (nI 0)) S.1 S.2.1 dL_law_1158 (by decide) ?_
    exact h.elim
set_option maxRecDepth 100000 in
set_option maxHeartbeats 4000000 in
theorem cB_L_law_1180 {p : Program} {l : Launch} {e : Env} {s : State} {m : MethodId} {args : Array Value} {below : List Frame} {meth : Method} {c : Code} {Z : State → Prop} {G : mgT} {o L : Nat} {xs : Nat → Int32} (hl0 : l.stackTraces = false) (S : CallFix p m c cL_law 9 s args TT RL) (hG : GK G s s.heap) (hX : va_X o L xs s s.heap) (hbl : o < s.heap.size) (hbA : ¬ Ah G o) (hgh : gh G = s.heap.size) (hend : ∀ (pc : Nat) (H : Heap) (ls : Array Slot), decode cL_law pc = .ok (.ireturn, 1) → W p l e room_1 s m args below meth c H [] 603072 7223402 Z (F0 m pc ls [.int 1])) : ∀ (K28 : Option Nat → Option Nat → Option Nat → Option Nat → Int32 → Nat → mmT → Prop) (kK28 : ∀ (r1 : Option Nat) (r2 : Option Nat) (r3 : Option Nat) (r4 : Option Nat) (x5 : Int32) (t28 : Nat) (μ : mmT) (H : Heap) (locs : List Loc) (ls : Array Slot), Mm G μ H → va_S (Ah G) s.heap H locs → lv_has ls 9 [(0, .ref o), (1, va_rf r1), (2, va_rf r2), (3, va_rf r3), (4, va_rf r4), (5, .int x5)] → K28 r1 r2 r3 r4 x5 t28 μ → W p l e room_1 s m args below meth c H locs (652 + 2 * t28) (7573 + 12 * t28) Z (F0 m 28 ls [])) (r1 : Option Nat) (r2 : Option Nat) (r3 : Option Nat) (r4 : Option Nat) (x5 : Int32) (t28 : Nat) (μ : mmT) (H : Heap) (locs : List Loc) (ls : Array Slot), Mm G μ H → va_S (Ah G) s.heap H locs → lv_has ls 9 [(0, .ref o), (1, va_rf r1), (2, va_rf r2), (3, va_rf r3), (4, va_rf r4), (5, .int x5)] → w_L_law_b1180 G o L xs K28 r1 r2 r3 r4 x5 t28 μ → W p l e room_1 s m args below meth c H locs (652 + 2 * t28) (7573 + 12 * t28) Z (F0 m 1180 ls []) := by
  intro K28 kK28 r1 r2 r3 r4 x5 t28 μ H locs ls hM hS hl h
  unfold w_L_law_b1180 at h
  obtain ⟨ht28, h⟩ := h
  refine mz_aload_n (x := r1) S.1 S.2.1 dL_law_1180 rfl (lv_at hl 1 rfl) ?_
  obtain ⟨a296, e297, h⟩ := h
  refine mz_o0 e297 ?_
  obtain ⟨k298, h⟩ := h
  refine mz_V S hG hM hS cf_9 k298 (As := []) (rest := []) (c_X10_crowCount h) yf_X10_crowCount tw_382 tw_383 tw_384 ⟨Nat.le_of_ble_eq_true rfl, Nat.le_of_ble_eq_true rfl⟩ ⟨(by show (652 + 2 * t28) + 0 ≤ 603072; omega), (by show (7573 + 12 * t28) + 0 ≤ 7223402; omega)⟩ rfl hl.1 rfl (Nat.le_of_ble_eq_true rfl) dL_law_1181 (fun v9 μ9 H locs hp hM hS => ?_)
  obtain ⟨u299, rfl, e9, h⟩ := hp
  rw [e9] at hM
  refine W.cs (cells' := 652 + 2 * t28) (slots' := 7573 + 12 * t28) (by first | omega | (dsimp only; omega)) (by first | omega | (dsimp only; omega)) ?_
  refine mz_aload_n (x := r2) S.1 S.2.1 dL_law_1184 rfl (lv_at hl 2 rfl) ?_
  obtain ⟨a300, e301, h⟩ := h
  refine mz_o0 e301 ?_
  obtain ⟨k302, h⟩ := h
  refine mz_V S hG hM hS cf_10 k302 (As := []) (rest := [.int u299]) (c_X11_crowCount h) yf_X11_crowCount tw_1726 tw_1727 tw_1728 ⟨Nat.le_of_ble_eq_true rfl, Nat.le_of_ble_eq_true rfl⟩ ⟨(by show (652 + 2 * t28) + 0 ≤ 603072; omega), (by show (7573 + 12 * t28) + 0 ≤ 7223402; omega)⟩ rfl hl.1 rfl (Nat.le_of_ble_eq_true rfl) dL_law_1185 (fun v9 μ304 H locs hp hM hS => ?_)
  obtain ⟨u303, rfl, h⟩ := hp
  refine W.cs (cells' := 652 + 2 * t28) (slots' := 7573 + 12 * t28) (by first | omega | (dsimp only; omega)) (by first | omega | (dsimp only; omega)) ?_
  refine lv_icmp_eq (tgt := 2766) S.1 S.2.1 dL_law_1188 (by decide) (fun c305 => ?_) (fun c305 => ?_)
  · have h := h.1 c305
    refine W.widen (k := 654 + 2 * t28) (n := 7585 + 12 * t28) (by omega) (by omega) ?_
    exact cB_L_law_2766 hl0 S hG hX hbl hbA hgh hend K28 kK28 r1 r2 r3 r4 x5 t28 μ304 H locs ls hM hS (lv_sub hl [0, 1, 2, 3, 4, 5] rfl) h
  · have h := h.2 c305
    refine lv_iconst (v := (nI 0)) S.1 S.2.1 dL_law_1191 (by decide) ?_
    exact h.elim
set_option maxRecDepth 100000 in
set_option maxHeartbeats 4000000 in
theorem cB_L_law_1253 {p : Program} {l : Launch} {e : Env} {s : State} {m : MethodId} {args : Array Value} {below : List Frame} {meth : Method} {c : Code} {Z : State → Prop} {G : mgT} {o L : Nat} {xs : Nat → Int32} (hl0 : l.stackTraces = false) (S : CallFix p m c cL_law 9 s args TT RL) (hG : GK G s s.heap) (hX : va_X o L xs s s.heap) (hbl : o < s.heap.size) (hbA : ¬ Ah G o) (hgh : gh G = s.heap.size) (hend : ∀ (pc : Nat) (H : Heap) (ls : Array Slot), decode cL_law pc = .ok (.ireturn, 1) → W p l e room_1 s m args below meth c H [] 603072 7223402 Z (F0 m pc ls [.int 1])) : ∀ (K28 : Option Nat → Option Nat → Option Nat → Option Nat → Int32 → Nat → mmT → Prop) (kK28 : ∀ (r1 : Option Nat) (r2 : Option Nat) (r3 : Option Nat) (r4 : Option Nat) (x5 : Int32) (t28 : Nat) (μ : mmT) (H : Heap) (locs : List Loc) (ls : Array Slot), Mm G μ H → va_S (Ah G) s.heap H locs → lv_has ls 9 [(0, .ref o), (1, va_rf r1), (2, va_rf r2), (3, va_rf r3), (4, va_rf r4), (5, .int x5)] → K28 r1 r2 r3 r4 x5 t28 μ → W p l e room_1 s m args below meth c H locs (652 + 2 * t28) (7573 + 12 * t28) Z (F0 m 28 ls [])) (r1 : Option Nat) (r2 : Option Nat) (r3 : Option Nat) (r4 : Option Nat) (x5 : Int32) (t28 : Nat) (μ : mmT) (H : Heap) (locs : List Loc) (ls : Array Slot), Mm G μ H → va_S (Ah G) s.heap H locs → lv_has ls 9 [(0, .ref o), (1, va_rf r1), (2, va_rf r2), (3, va_rf r3), (4, va_rf r4), (5, .int x5)] → w_L_law_b1253 G o L xs K28 r1 r2 r3 r4 x5 t28 μ → W p l e room_1 s m args below meth c H locs (654 + 2 * t28) (7585 + 12 * t28) Z (F0 m 1253 ls []) := by
  intro K28 kK28 r1 r2 r3 r4 x5 t28 μ H locs ls hM hS hl h
  unfold w_L_law_b1253 at h
  obtain ⟨ht28, h⟩ := h
  refine lv_goto (tgt := 2766) S.1 S.2.1 dL_law_1253 (by decide) ?_
  refine W.widen (k := 654 + 2 * t28) (n := 7585 + 12 * t28) (by omega) (by omega) ?_
  exact cB_L_law_2766 hl0 S hG hX hbl hbA hgh hend K28 kK28 r1 r2 r3 r4 x5 t28 μ H locs ls hM hS (lv_sub hl [0, 1, 2, 3, 4, 5] rfl) h
set_option maxRecDepth 100000 in
set_option maxHeartbeats 4000000 in
theorem cB_L_law_1247 {p : Program} {l : Launch} {e : Env} {s : State} {m : MethodId} {args : Array Value} {below : List Frame} {meth : Method} {c : Code} {Z : State → Prop} {G : mgT} {o L : Nat} {xs : Nat → Int32} (hl0 : l.stackTraces = false) (S : CallFix p m c cL_law 9 s args TT RL) (hG : GK G s s.heap) (hX : va_X o L xs s s.heap) (hbl : o < s.heap.size) (hbA : ¬ Ah G o) (hgh : gh G = s.heap.size) (hend : ∀ (pc : Nat) (H : Heap) (ls : Array Slot), decode cL_law pc = .ok (.ireturn, 1) → W p l e room_1 s m args below meth c H [] 603072 7223402 Z (F0 m pc ls [.int 1])) : ∀ (K28 : Option Nat → Option Nat → Option Nat → Option Nat → Int32 → Nat → mmT → Prop) (kK28 : ∀ (r1 : Option Nat) (r2 : Option Nat) (r3 : Option Nat) (r4 : Option Nat) (x5 : Int32) (t28 : Nat) (μ : mmT) (H : Heap) (locs : List Loc) (ls : Array Slot), Mm G μ H → va_S (Ah G) s.heap H locs → lv_has ls 9 [(0, .ref o), (1, va_rf r1), (2, va_rf r2), (3, va_rf r3), (4, va_rf r4), (5, .int x5)] → K28 r1 r2 r3 r4 x5 t28 μ → W p l e room_1 s m args below meth c H locs (652 + 2 * t28) (7573 + 12 * t28) Z (F0 m 28 ls [])) (r1 : Option Nat) (r2 : Option Nat) (r3 : Option Nat) (r4 : Option Nat) (x5 : Int32) (s0 : Int64) (s1 : Int64) (t28 : Nat) (μ : mmT) (H : Heap) (locs : List Loc) (ls : Array Slot), Mm G μ H → va_S (Ah G) s.heap H locs → lv_has ls 9 [(0, .ref o), (1, va_rf r1), (2, va_rf r2), (3, va_rf r3), (4, va_rf r4), (5, .int x5)] → w_L_law_b1247 G o L xs K28 r1 r2 r3 r4 x5 s0 s1 t28 μ → W p l e room_1 s m args below meth c H locs (654 + 2 * t28) (7585 + 12 * t28) Z (F0 m 1247 ls [.long s1, .long s0]) := by
  intro K28 kK28 r1 r2 r3 r4 x5 s0 s1 t28 μ H locs ls hM hS hl h
  unfold w_L_law_b1247 at h
  obtain ⟨ht28, h⟩ := h
  refine W.lcmp S.1 S.2.1 dL_law_1247 ?_
  refine lv_if_eq (tgt := 1253) S.1 S.2.1 dL_law_1248 (by decide) (fun c324 => ?_) (fun c324 => ?_)
  · have h := h.1 c324
    refine W.widen (k := 654 + 2 * t28) (n := 7585 + 12 * t28) (by omega) (by omega) ?_
    exact cB_L_law_1253 hl0 S hG hX hbl hbA hgh hend K28 kK28 r1 r2 r3 r4 x5 t28 μ H locs ls hM hS (lv_sub hl [0, 1, 2, 3, 4, 5] rfl) h
  · have h := h.2 c324
    refine lv_iconst (v := (nI 0)) S.1 S.2.1 dL_law_1251 (by decide) ?_
    exact h.elim
set_option maxRecDepth 100000 in
set_option maxHeartbeats 4000000 in
theorem cB_L_law_1193 {p : Program} {l : Launch} {e : Env} {s : State} {m : MethodId} {args : Array Value} {below : List Frame} {meth : Method} {c : Code} {Z : State → Prop} {G : mgT} {o L : Nat} {xs : Nat → Int32} (hl0 : l.stackTraces = false) (S : CallFix p m c cL_law 9 s args TT RL) (hG : GK G s s.heap) (hX : va_X o L xs s s.heap) (hbl : o < s.heap.size) (hbA : ¬ Ah G o) (hgh : gh G = s.heap.size) (hend : ∀ (pc : Nat) (H : Heap) (ls : Array Slot), decode cL_law pc = .ok (.ireturn, 1) → W p l e room_1 s m args below meth c H [] 603072 7223402 Z (F0 m pc ls [.int 1])) : ∀ (K28 : Option Nat → Option Nat → Option Nat → Option Nat → Int32 → Nat → mmT → Prop) (kK28 : ∀ (r1 : Option Nat) (r2 : Option Nat) (r3 : Option Nat) (r4 : Option Nat) (x5 : Int32) (t28 : Nat) (μ : mmT) (H : Heap) (locs : List Loc) (ls : Array Slot), Mm G μ H → va_S (Ah G) s.heap H locs → lv_has ls 9 [(0, .ref o), (1, va_rf r1), (2, va_rf r2), (3, va_rf r3), (4, va_rf r4), (5, .int x5)] → K28 r1 r2 r3 r4 x5 t28 μ → W p l e room_1 s m args below meth c H locs (652 + 2 * t28) (7573 + 12 * t28) Z (F0 m 28 ls [])) (r1 : Option Nat) (r2 : Option Nat) (r3 : Option Nat) (r4 : Option Nat) (x5 : Int32) (t28 : Nat) (μ : mmT) (H : Heap) (locs : List Loc) (ls : Array Slot), Mm G μ H → va_S (Ah G) s.heap H locs → lv_has ls 9 [(0, .ref o), (1, va_rf r1), (2, va_rf r2), (3, va_rf r3), (4, va_rf r4), (5, .int x5)] → w_L_law_b1193 G o L xs K28 r1 r2 r3 r4 x5 t28 μ → W p l e room_1 s m args below meth c H locs (652 + 2 * t28) (7573 + 12 * t28) Z (F0 m 1193 ls []) := by
  intro K28 kK28 r1 r2 r3 r4 x5 t28 μ H locs ls hM hS hl h
  unfold w_L_law_b1193 at h
  obtain ⟨ht28, h⟩ := h
  refine mz_aload_n (x := r1) S.1 S.2.1 dL_law_1193 rfl (lv_at hl 1 rfl) ?_
  refine lv_aload_n S.1 S.2.1 dL_law_1194 rfl (lv_at hl 0 rfl) ?_
  refine lv_iload S.1 S.2.1 dL_law_1195 (lv_at hl 5 rfl) ?_
  refine lv_iconst (v := (nI 1)) S.1 S.2.1 dL_law_1197 (by decide) ?_
  refine lv_iadd S.1 S.2.1 dL_law_1198 ?_
  obtain ⟨b306, h⟩ := h
  refine va_sld S.1 S.2.1 hX hbl hbA hS b306 dL_law_1199 ?_
  refine mz_aload_n (x := r3) S.1 S.2.1 dL_law_1200 rfl (lv_at hl 3 rfl) ?_
  refine mz_SH S hG hM hS (As := [va_rf r1, .int (xs (x5 + (nI 1)).toNatClampNeg), va_rf r3]) (rest := []) (c_L_isFlying hl0 h) yh_L_isFlying tw_1144 tw_1145 ⟨Nat.le_of_ble_eq_true rfl, Nat.le_of_ble_eq_true rfl⟩ ⟨(by show (652 + 2 * t28) + 1 ≤ 603072; omega), (by show (7573 + 12 * t28) + 6 ≤ 7223402; omega)⟩ rfl hl.1 rfl (Nat.le_of_ble_eq_true rfl) dL_law_1201 (fun v9 μ308 H locs hp hM hS => ?_)
  obtain ⟨u307, rfl, h⟩ := hp
  refine W.cs (cells' := 653 + 2 * t28) (slots' := 7579 + 12 * t28) (by first | omega | (dsimp only; omega)) (by first | omega | (dsimp only; omega)) ?_
  refine lv_istore (lv' := [(6, .int u307), (0, .ref o), (1, va_rf r1), (2, va_rf r2), (3, va_rf r3), (4, va_rf r4), (5, .int x5)]) S.1 S.2.1 dL_law_1204 hl (by decide) rfl (fun ls hl => ?_)
  refine mz_aload_n (x := r2) S.1 S.2.1 dL_law_1206 rfl (lv_at hl 3 rfl) ?_
  refine lv_aload_n S.1 S.2.1 dL_law_1207 rfl (lv_at hl 1 rfl) ?_
  refine lv_iload S.1 S.2.1 dL_law_1208 (lv_at hl 6 rfl) ?_
  refine lv_iconst (v := (nI 1)) S.1 S.2.1 dL_law_1210 (by decide) ?_
  refine lv_iadd S.1 S.2.1 dL_law_1211 ?_
  obtain ⟨b309, h⟩ := h
  refine va_sld S.1 S.2.1 hX hbl hbA hS b309 dL_law_1212 ?_
  obtain ⟨a310, e311, h⟩ := h
  refine mz_o1 e311 ?_
  obtain ⟨k312, h⟩ := h
  refine mz_V S hG hM hS cf_10 k312 (As := [.int (xs (x5 + (nI 1)).toNatClampNeg)]) (rest := []) (c_X11_isFlying h) yf_X11_isFlying tw_1730 tw_1731 tw_1732 ⟨Nat.le_of_ble_eq_true rfl, Nat.le_of_ble_eq_true rfl⟩ ⟨(by show (653 + 2 * t28) + 0 ≤ 603072; omega), (by show (7579 + 12 * t28) + 0 ≤ 7223402; omega)⟩ rfl hl.1 rfl (Nat.le_of_ble_eq_true rfl) dL_law_1213 (fun v9 μ314 H locs hp hM hS => ?_)
  obtain ⟨u313, rfl, h⟩ := hp
  refine W.cs (cells' := 653 + 2 * t28) (slots' := 7579 + 12 * t28) (by first | omega | (dsimp only; omega)) (by first | omega | (dsimp only; omega)) ?_
  refine lv_istore (lv' := [(7, .int u313), (6, .int u307), (0, .ref o), (1, va_rf r1), (2, va_rf r2), (3, va_rf r3), (4, va_rf r4), (5, .int x5)]) S.1 S.2.1 dL_law_1216 hl (by decide) rfl (fun ls hl => ?_)
  refine mz_aload_n (x := r2) S.1 S.2.1 dL_law_1218 rfl (lv_at hl 4 rfl) ?_
  refine mz_o0 e311 ?_
  obtain ⟨k315, h⟩ := h
  refine mz_V S hG hM hS cf_10 k315 (As := []) (rest := []) (c_X11_thrown h) yf_X11_thrown tw_1543 tw_1544 tw_1545 ⟨Nat.le_of_ble_eq_true rfl, Nat.le_of_ble_eq_true rfl⟩ ⟨(by show (653 + 2 * t28) + 0 ≤ 603072; omega), (by show (7579 + 12 * t28) + 0 ≤ 7223402; omega)⟩ rfl hl.1 rfl (Nat.le_of_ble_eq_true rfl) dL_law_1219 (fun v9 μ9 H locs hp hM hS => ?_)
  obtain ⟨u316, rfl, e9, h⟩ := hp
  rw [e9] at hM
  refine W.cs (cells' := 653 + 2 * t28) (slots' := 7579 + 12 * t28) (by first | omega | (dsimp only; omega)) (by first | omega | (dsimp only; omega)) ?_
  refine lv_iload S.1 S.2.1 dL_law_1222 (lv_at hl 1 rfl) ?_
  refine lv_icmp_eq (tgt := 1229) S.1 S.2.1 dL_law_1224 (by decide) (fun c317 => ?_) (fun c317 => ?_)
  · have h := h.1 c317
    refine lv_iload S.1 S.2.1 dL_law_1229 (lv_at hl 1 rfl) ?_
    refine lv_if_ne (tgt := 1253) S.1 S.2.1 dL_law_1231 (by decide) (fun c318 => ?_) (fun c318 => ?_)
    · have h := h.1 c318
      refine W.widen (k := 654 + 2 * t28) (n := 7585 + 12 * t28) (by omega) (by omega) ?_
      exact cB_L_law_1253 hl0 S hG hX hbl hbA hgh hend K28 kK28 r1 r2 r3 r4 x5 t28 μ314 H locs ls hM hS (lv_sub hl [2, 3, 4, 5, 6, 7] rfl) h
    · have h := h.2 c318
      refine mz_aload_n (x := r3) S.1 S.2.1 dL_law_1234 rfl (lv_at hl 5 rfl) ?_
      refine lv_iconst (v := (nI 0)) S.1 S.2.1 dL_law_1235 (by decide) ?_
      obtain ⟨a319, e320, h⟩ := h
      refine mz_o1 e320 ?_
      obtain ⟨k321, h⟩ := h
      obtain ⟨b322, h⟩ := h
      refine mz_lald S hG hM dL_law_1236 k321 b322 ?_
      refine lv_iload S.1 S.2.1 dL_law_1237 (lv_at hl 0 rfl) ?_
      refine lv_if_eq (tgt := 1246) S.1 S.2.1 dL_law_1239 (by decide) (fun c323 => ?_) (fun c323 => ?_)
      · have h := h.1 c323
        refine lv_lconst (v := lN 0) S.1 S.2.1 dL_law_1246 rfl ?_
        refine W.widen (k := 654 + 2 * t28) (n := 7585 + 12 * t28) (by omega) (by omega) ?_
        exact cB_L_law_1247 hl0 S hG hX hbl hbA hgh hend K28 kK28 r1 r2 r3 r4 x5 (mL μ314 a319 (nI 0).toNatClampNeg) (lN 0) t28 μ314 H locs ls hM hS (lv_sub hl [2, 3, 4, 5, 6, 7] rfl) h
      · have h := h.2 c323
        refine lv_lconst (v := lN 1) S.1 S.2.1 dL_law_1242 rfl ?_
        refine lv_goto (tgt := 1247) S.1 S.2.1 dL_law_1243 (by decide) ?_
        refine W.widen (k := 654 + 2 * t28) (n := 7585 + 12 * t28) (by omega) (by omega) ?_
        exact cB_L_law_1247 hl0 S hG hX hbl hbA hgh hend K28 kK28 r1 r2 r3 r4 x5 (mL μ314 a319 (nI 0).toNatClampNeg) (lN 1) t28 μ314 H locs ls hM hS (lv_sub hl [2, 3, 4, 5, 6, 7] rfl) h
  · have h := h.2 c317
    refine lv_iconst (v := (nI 0)) S.1 S.2.1 dL_law_1227 (by decide) ?_
    exact h.elim
set_option maxRecDepth 100000 in
set_option maxHeartbeats 4000000 in
theorem cB_L_law_1309 {p : Program} {l : Launch} {e : Env} {s : State} {m : MethodId} {args : Array Value} {below : List Frame} {meth : Method} {c : Code} {Z : State → Prop} {G : mgT} {o L : Nat} {xs : Nat → Int32} (hl0 : l.stackTraces = false) (S : CallFix p m c cL_law 9 s args TT RL) (hG : GK G s s.heap) (hX : va_X o L xs s s.heap) (hbl : o < s.heap.size) (hbA : ¬ Ah G o) (hgh : gh G = s.heap.size) (hend : ∀ (pc : Nat) (H : Heap) (ls : Array Slot), decode cL_law pc = .ok (.ireturn, 1) → W p l e room_1 s m args below meth c H [] 603072 7223402 Z (F0 m pc ls [.int 1])) : ∀ (K28 : Option Nat → Option Nat → Option Nat → Option Nat → Int32 → Nat → mmT → Prop) (kK28 : ∀ (r1 : Option Nat) (r2 : Option Nat) (r3 : Option Nat) (r4 : Option Nat) (x5 : Int32) (t28 : Nat) (μ : mmT) (H : Heap) (locs : List Loc) (ls : Array Slot), Mm G μ H → va_S (Ah G) s.heap H locs → lv_has ls 9 [(0, .ref o), (1, va_rf r1), (2, va_rf r2), (3, va_rf r3), (4, va_rf r4), (5, .int x5)] → K28 r1 r2 r3 r4 x5 t28 μ → W p l e room_1 s m args below meth c H locs (652 + 2 * t28) (7573 + 12 * t28) Z (F0 m 28 ls [])) (r1 : Option Nat) (r2 : Option Nat) (r3 : Option Nat) (r4 : Option Nat) (x5 : Int32) (t28 : Nat) (μ : mmT) (H : Heap) (locs : List Loc) (ls : Array Slot), Mm G μ H → va_S (Ah G) s.heap H locs → lv_has ls 9 [(0, .ref o), (1, va_rf r1), (2, va_rf r2), (3, va_rf r3), (4, va_rf r4), (5, .int x5)] → w_L_law_b1309 G o L xs K28 r1 r2 r3 r4 x5 t28 μ → W p l e room_1 s m args below meth c H locs (654 + 2 * t28) (7585 + 12 * t28) Z (F0 m 1309 ls []) := by
  intro K28 kK28 r1 r2 r3 r4 x5 t28 μ H locs ls hM hS hl h
  unfold w_L_law_b1309 at h
  obtain ⟨ht28, h⟩ := h
  refine lv_goto (tgt := 2766) S.1 S.2.1 dL_law_1309 (by decide) ?_
  refine W.widen (k := 654 + 2 * t28) (n := 7585 + 12 * t28) (by omega) (by omega) ?_
  exact cB_L_law_2766 hl0 S hG hX hbl hbA hgh hend K28 kK28 r1 r2 r3 r4 x5 t28 μ H locs ls hM hS (lv_sub hl [0, 1, 2, 3, 4, 5] rfl) h
set_option maxRecDepth 100000 in
set_option maxHeartbeats 4000000 in
theorem cB_L_law_1256 {p : Program} {l : Launch} {e : Env} {s : State} {m : MethodId} {args : Array Value} {below : List Frame} {meth : Method} {c : Code} {Z : State → Prop} {G : mgT} {o L : Nat} {xs : Nat → Int32} (hl0 : l.stackTraces = false) (S : CallFix p m c cL_law 9 s args TT RL) (hG : GK G s s.heap) (hX : va_X o L xs s s.heap) (hbl : o < s.heap.size) (hbA : ¬ Ah G o) (hgh : gh G = s.heap.size) (hend : ∀ (pc : Nat) (H : Heap) (ls : Array Slot), decode cL_law pc = .ok (.ireturn, 1) → W p l e room_1 s m args below meth c H [] 603072 7223402 Z (F0 m pc ls [.int 1])) : ∀ (K28 : Option Nat → Option Nat → Option Nat → Option Nat → Int32 → Nat → mmT → Prop) (kK28 : ∀ (r1 : Option Nat) (r2 : Option Nat) (r3 : Option Nat) (r4 : Option Nat) (x5 : Int32) (t28 : Nat) (μ : mmT) (H : Heap) (locs : List Loc) (ls : Array Slot), Mm G μ H → va_S (Ah G) s.heap H locs → lv_has ls 9 [(0, .ref o), (1, va_rf r1), (2, va_rf r2), (3, va_rf r3), (4, va_rf r4), (5, .int x5)] → K28 r1 r2 r3 r4 x5 t28 μ → W p l e room_1 s m args below meth c H locs (652 + 2 * t28) (7573 + 12 * t28) Z (F0 m 28 ls [])) (r1 : Option Nat) (r2 : Option Nat) (r3 : Option Nat) (r4 : Option Nat) (x5 : Int32) (t28 : Nat) (μ : mmT) (H : Heap) (locs : List Loc) (ls : Array Slot), Mm G μ H → va_S (Ah G) s.heap H locs → lv_has ls 9 [(0, .ref o), (1, va_rf r1), (2, va_rf r2), (3, va_rf r3), (4, va_rf r4), (5, .int x5)] → w_L_law_b1256 G o L xs K28 r1 r2 r3 r4 x5 t28 μ → W p l e room_1 s m args below meth c H locs (652 + 2 * t28) (7573 + 12 * t28) Z (F0 m 1256 ls []) := by
  intro K28 kK28 r1 r2 r3 r4 x5 t28 μ H locs ls hM hS hl h
  unfold w_L_law_b1256 at h
  obtain ⟨ht28, h⟩ := h
  refine mz_aload_n (x := r1) S.1 S.2.1 dL_law_1256 rfl (lv_at hl 1 rfl) ?_
  refine lv_aload_n S.1 S.2.1 dL_law_1257 rfl (lv_at hl 0 rfl) ?_
  refine lv_iload S.1 S.2.1 dL_law_1258 (lv_at hl 5 rfl) ?_
  refine lv_iconst (v := (nI 1)) S.1 S.2.1 dL_law_1260 (by decide) ?_
  refine lv_iadd S.1 S.2.1 dL_law_1261 ?_
  obtain ⟨b325, h⟩ := h
  refine va_sld S.1 S.2.1 hX hbl hbA hS b325 dL_law_1262 ?_
  refine mz_aload_n (x := r3) S.1 S.2.1 dL_law_1263 rfl (lv_at hl 3 rfl) ?_
  refine mz_SH S hG hM hS (As := [va_rf r1, .int (xs (x5 + (nI 1)).toNatClampNeg), va_rf r3]) (rest := []) (c_L_carriedMessage hl0 h) yh_L_carriedMessage tw_1160 tw_1161 ⟨Nat.le_of_ble_eq_true rfl, Nat.le_of_ble_eq_true rfl⟩ ⟨(by show (652 + 2 * t28) + 2 ≤ 603072; omega), (by show (7573 + 12 * t28) + 12 ≤ 7223402; omega)⟩ rfl hl.1 rfl (Nat.le_of_ble_eq_true rfl) dL_law_1264 (fun v9 μ327 H locs hp hM hS => ?_)
  obtain ⟨u326, rfl, h⟩ := hp
  refine W.cs (cells' := 654 + 2 * t28) (slots' := 7585 + 12 * t28) (by first | omega | (dsimp only; omega)) (by first | omega | (dsimp only; omega)) ?_
  refine lv_istore (lv' := [(6, .int u326), (0, .ref o), (1, va_rf r1), (2, va_rf r2), (3, va_rf r3), (4, va_rf r4), (5, .int x5)]) S.1 S.2.1 dL_law_1267 hl (by decide) rfl (fun ls hl => ?_)
  refine mz_aload_n (x := r2) S.1 S.2.1 dL_law_1269 rfl (lv_at hl 3 rfl) ?_
  refine lv_aload_n S.1 S.2.1 dL_law_1270 rfl (lv_at hl 1 rfl) ?_
  refine lv_iload S.1 S.2.1 dL_law_1271 (lv_at hl 6 rfl) ?_
  refine lv_iconst (v := (nI 1)) S.1 S.2.1 dL_law_1273 (by decide) ?_
  refine lv_iadd S.1 S.2.1 dL_law_1274 ?_
  obtain ⟨b328, h⟩ := h
  refine va_sld S.1 S.2.1 hX hbl hbA hS b328 dL_law_1275 ?_
  obtain ⟨a329, e330, h⟩ := h
  refine mz_o1 e330 ?_
  obtain ⟨k331, h⟩ := h
  refine mz_V S hG hM hS cf_10 k331 (As := [.int (xs (x5 + (nI 1)).toNatClampNeg)]) (rest := []) (c_X11_carriedMessage h) yf_X11_carriedMessage tw_1738 tw_1739 tw_1740 ⟨Nat.le_of_ble_eq_true rfl, Nat.le_of_ble_eq_true rfl⟩ ⟨(by show (654 + 2 * t28) + 0 ≤ 603072; omega), (by show (7585 + 12 * t28) + 0 ≤ 7223402; omega)⟩ rfl hl.1 rfl (Nat.le_of_ble_eq_true rfl) dL_law_1276 (fun v9 μ333 H locs hp hM hS => ?_)
  obtain ⟨u332, rfl, h⟩ := hp
  refine W.cs (cells' := 654 + 2 * t28) (slots' := 7585 + 12 * t28) (by first | omega | (dsimp only; omega)) (by first | omega | (dsimp only; omega)) ?_
  refine lv_istore (lv' := [(7, .int u332), (6, .int u326), (0, .ref o), (1, va_rf r1), (2, va_rf r2), (3, va_rf r3), (4, va_rf r4), (5, .int x5)]) S.1 S.2.1 dL_law_1279 hl (by decide) rfl (fun ls hl => ?_)
  refine mz_aload_n (x := r2) S.1 S.2.1 dL_law_1281 rfl (lv_at hl 4 rfl) ?_
  refine mz_o0 e330 ?_
  obtain ⟨k334, h⟩ := h
  refine mz_V S hG hM hS cf_10 k334 (As := []) (rest := []) (c_X11_thrown h) yf_X11_thrown tw_1543 tw_1544 tw_1545 ⟨Nat.le_of_ble_eq_true rfl, Nat.le_of_ble_eq_true rfl⟩ ⟨(by show (654 + 2 * t28) + 0 ≤ 603072; omega), (by show (7585 + 12 * t28) + 0 ≤ 7223402; omega)⟩ rfl hl.1 rfl (Nat.le_of_ble_eq_true rfl) dL_law_1282 (fun v9 μ9 H locs hp hM hS => ?_)
  obtain ⟨u335, rfl, e9, h⟩ := hp
  rw [e9] at hM
  refine W.cs (cells' := 654 + 2 * t28) (slots' := 7585 + 12 * t28) (by first | omega | (dsimp only; omega)) (by first | omega | (dsimp only; omega)) ?_
  refine lv_iload S.1 S.2.1 dL_law_1285 (lv_at hl 1 rfl) ?_
  refine lv_icmp_eq (tgt := 1292) S.1 S.2.1 dL_law_1287 (by decide) (fun c336 => ?_) (fun c336 => ?_)
  · have h := h.1 c336
    refine lv_iload S.1 S.2.1 dL_law_1292 (lv_at hl 1 rfl) ?_
    refine lv_if_ne (tgt := 1309) S.1 S.2.1 dL_law_1294 (by decide) (fun c337 => ?_) (fun c337 => ?_)
    · have h := h.1 c337
      refine W.widen (k := 654 + 2 * t28) (n := 7585 + 12 * t28) (by omega) (by omega) ?_
      exact cB_L_law_1309 hl0 S hG hX hbl hbA hgh hend K28 kK28 r1 r2 r3 r4 x5 t28 μ333 H locs ls hM hS (lv_sub hl [2, 3, 4, 5, 6, 7] rfl) h
    · have h := h.2 c337
      refine mz_aload_n (x := r3) S.1 S.2.1 dL_law_1297 rfl (lv_at hl 5 rfl) ?_
      refine lv_iconst (v := (nI 0)) S.1 S.2.1 dL_law_1298 (by decide) ?_
      obtain ⟨a338, e339, h⟩ := h
      refine mz_o1 e339 ?_
      obtain ⟨k340, h⟩ := h
      obtain ⟨b341, h⟩ := h
      refine mz_lald S hG hM dL_law_1299 k340 b341 ?_
      refine lv_iload S.1 S.2.1 dL_law_1300 (lv_at hl 0 rfl) ?_
      refine lv_i2l S.1 S.2.1 dL_law_1302 rfl ?_
      refine W.lcmp S.1 S.2.1 dL_law_1303 ?_
      refine lv_if_eq (tgt := 1309) S.1 S.2.1 dL_law_1304 (by decide) (fun c342 => ?_) (fun c342 => ?_)
      · have h := h.1 c342
        refine W.widen (k := 654 + 2 * t28) (n := 7585 + 12 * t28) (by omega) (by omega) ?_
        exact cB_L_law_1309 hl0 S hG hX hbl hbA hgh hend K28 kK28 r1 r2 r3 r4 x5 t28 μ333 H locs ls hM hS (lv_sub hl [2, 3, 4, 5, 6, 7] rfl) h
      · have h := h.2 c342
        refine lv_iconst (v := (nI 0)) S.1 S.2.1 dL_law_1307 (by decide) ?_
        exact h.elim
  · have h := h.2 c336
    refine lv_iconst (v := (nI 0)) S.1 S.2.1 dL_law_1290 (by decide) ?_
    exact h.elim
set_option maxRecDepth 100000 in
set_option maxHeartbeats 4000000 in
theorem cB_L_law_1365 {p : Program} {l : Launch} {e : Env} {s : State} {m : MethodId} {args : Array Value} {below : List Frame} {meth : Method} {c : Code} {Z : State → Prop} {G : mgT} {o L : Nat} {xs : Nat → Int32} (hl0 : l.stackTraces = false) (S : CallFix p m c cL_law 9 s args TT RL) (hG : GK G s s.heap) (hX : va_X o L xs s s.heap) (hbl : o < s.heap.size) (hbA : ¬ Ah G o) (hgh : gh G = s.heap.size) (hend : ∀ (pc : Nat) (H : Heap) (ls : Array Slot), decode cL_law pc = .ok (.ireturn, 1) → W p l e room_1 s m args below meth c H [] 603072 7223402 Z (F0 m pc ls [.int 1])) : ∀ (K28 : Option Nat → Option Nat → Option Nat → Option Nat → Int32 → Nat → mmT → Prop) (kK28 : ∀ (r1 : Option Nat) (r2 : Option Nat) (r3 : Option Nat) (r4 : Option Nat) (x5 : Int32) (t28 : Nat) (μ : mmT) (H : Heap) (locs : List Loc) (ls : Array Slot), Mm G μ H → va_S (Ah G) s.heap H locs → lv_has ls 9 [(0, .ref o), (1, va_rf r1), (2, va_rf r2), (3, va_rf r3), (4, va_rf r4), (5, .int x5)] → K28 r1 r2 r3 r4 x5 t28 μ → W p l e room_1 s m args below meth c H locs (652 + 2 * t28) (7573 + 12 * t28) Z (F0 m 28 ls [])) (r1 : Option Nat) (r2 : Option Nat) (r3 : Option Nat) (r4 : Option Nat) (x5 : Int32) (t28 : Nat) (μ : mmT) (H : Heap) (locs : List Loc) (ls : Array Slot), Mm G μ H → va_S (Ah G) s.heap H locs → lv_has ls 9 [(0, .ref o), (1, va_rf r1), (2, va_rf r2), (3, va_rf r3), (4, va_rf r4), (5, .int x5)] → w_L_law_b1365 G o L xs K28 r1 r2 r3 r4 x5 t28 μ → W p l e room_1 s m args below meth c H locs (654 + 2 * t28) (7585 + 12 * t28) Z (F0 m 1365 ls []) := by
  intro K28 kK28 r1 r2 r3 r4 x5 t28 μ H locs ls hM hS hl h
  unfold w_L_law_b1365 at h
  obtain ⟨ht28, h⟩ := h
  refine lv_goto (tgt := 2766) S.1 S.2.1 dL_law_1365 (by decide) ?_
  refine W.widen (k := 654 + 2 * t28) (n := 7585 + 12 * t28) (by omega) (by omega) ?_
  exact cB_L_law_2766 hl0 S hG hX hbl hbA hgh hend K28 kK28 r1 r2 r3 r4 x5 t28 μ H locs ls hM hS (lv_sub hl [0, 1, 2, 3, 4, 5] rfl) h
set_option maxRecDepth 100000 in
set_option maxHeartbeats 4000000 in
theorem cB_L_law_1312 {p : Program} {l : Launch} {e : Env} {s : State} {m : MethodId} {args : Array Value} {below : List Frame} {meth : Method} {c : Code} {Z : State → Prop} {G : mgT} {o L : Nat} {xs : Nat → Int32} (hl0 : l.stackTraces = false) (S : CallFix p m c cL_law 9 s args TT RL) (hG : GK G s s.heap) (hX : va_X o L xs s s.heap) (hbl : o < s.heap.size) (hbA : ¬ Ah G o) (hgh : gh G = s.heap.size) (hend : ∀ (pc : Nat) (H : Heap) (ls : Array Slot), decode cL_law pc = .ok (.ireturn, 1) → W p l e room_1 s m args below meth c H [] 603072 7223402 Z (F0 m pc ls [.int 1])) : ∀ (K28 : Option Nat → Option Nat → Option Nat → Option Nat → Int32 → Nat → mmT → Prop) (kK28 : ∀ (r1 : Option Nat) (r2 : Option Nat) (r3 : Option Nat) (r4 : Option Nat) (x5 : Int32) (t28 : Nat) (μ : mmT) (H : Heap) (locs : List Loc) (ls : Array Slot), Mm G μ H → va_S (Ah G) s.heap H locs → lv_has ls 9 [(0, .ref o), (1, va_rf r1), (2, va_rf r2), (3, va_rf r3), (4, va_rf r4), (5, .int x5)] → K28 r1 r2 r3 r4 x5 t28 μ → W p l e room_1 s m args below meth c H locs (652 + 2 * t28) (7573 + 12 * t28) Z (F0 m 28 ls [])) (r1 : Option Nat) (r2 : Option Nat) (r3 : Option Nat) (r4 : Option Nat) (x5 : Int32) (t28 : Nat) (μ : mmT) (H : Heap) (locs : List Loc) (ls : Array Slot), Mm G μ H → va_S (Ah G) s.heap H locs → lv_has ls 9 [(0, .ref o), (1, va_rf r1), (2, va_rf r2), (3, va_rf r3), (4, va_rf r4), (5, .int x5)] → w_L_law_b1312 G o L xs K28 r1 r2 r3 r4 x5 t28 μ → W p l e room_1 s m args below meth c H locs (652 + 2 * t28) (7573 + 12 * t28) Z (F0 m 1312 ls []) := by
  intro K28 kK28 r1 r2 r3 r4 x5 t28 μ H locs ls hM hS hl h
  unfold w_L_law_b1312 at h
  obtain ⟨ht28, h⟩ := h
  refine mz_aload_n (x := r1) S.1 S.2.1 dL_law_1312 rfl (lv_at hl 1 rfl) ?_
  refine lv_aload_n S.1 S.2.1 dL_law_1313 rfl (lv_at hl 0 rfl) ?_
  refine lv_iload S.1 S.2.1 dL_law_1314 (lv_at hl 5 rfl) ?_
  refine lv_iconst (v := (nI 1)) S.1 S.2.1 dL_law_1316 (by decide) ?_
  refine lv_iadd S.1 S.2.1 dL_law_1317 ?_
  obtain ⟨b343, h⟩ := h
  refine va_sld S.1 S.2.1 hX hbl hbA hS b343 dL_law_1318 ?_
  refine mz_aload_n (x := r3) S.1 S.2.1 dL_law_1319 rfl (lv_at hl 3 rfl) ?_
  refine mz_SH S hG hM hS (As := [va_rf r1, .int (xs (x5 + (nI 1)).toNatClampNeg), va_rf r3]) (rest := []) (c_L_flightMinutes hl0 h) yh_L_flightMinutes tw_1168 tw_1169 ⟨Nat.le_of_ble_eq_true rfl, Nat.le_of_ble_eq_true rfl⟩ ⟨(by show (652 + 2 * t28) + 1 ≤ 603072; omega), (by show (7573 + 12 * t28) + 6 ≤ 7223402; omega)⟩ rfl hl.1 rfl (Nat.le_of_ble_eq_true rfl) dL_law_1320 (fun v9 μ345 H locs hp hM hS => ?_)
  obtain ⟨u344, rfl, h⟩ := hp
  refine W.cs (cells' := 653 + 2 * t28) (slots' := 7579 + 12 * t28) (by first | omega | (dsimp only; omega)) (by first | omega | (dsimp only; omega)) ?_
  refine lv_istore (lv' := [(6, .int u344), (0, .ref o), (1, va_rf r1), (2, va_rf r2), (3, va_rf r3), (4, va_rf r4), (5, .int x5)]) S.1 S.2.1 dL_law_1323 hl (by decide) rfl (fun ls hl => ?_)
  refine mz_aload_n (x := r2) S.1 S.2.1 dL_law_1325 rfl (lv_at hl 3 rfl) ?_
  refine lv_aload_n S.1 S.2.1 dL_law_1326 rfl (lv_at hl 1 rfl) ?_
  refine lv_iload S.1 S.2.1 dL_law_1327 (lv_at hl 6 rfl) ?_
  refine lv_iconst (v := (nI 1)) S.1 S.2.1 dL_law_1329 (by decide) ?_
  refine lv_iadd S.1 S.2.1 dL_law_1330 ?_
  obtain ⟨b346, h⟩ := h
  refine va_sld S.1 S.2.1 hX hbl hbA hS b346 dL_law_1331 ?_
  obtain ⟨a347, e348, h⟩ := h
  refine mz_o1 e348 ?_
  obtain ⟨k349, h⟩ := h
  refine mz_V S hG hM hS cf_10 k349 (As := [.int (xs (x5 + (nI 1)).toNatClampNeg)]) (rest := []) (c_X11_flightMinutes h) yf_X11_flightMinutes tw_1742 tw_1743 tw_1744 ⟨Nat.le_of_ble_eq_true rfl, Nat.le_of_ble_eq_true rfl⟩ ⟨(by show (653 + 2 * t28) + 0 ≤ 603072; omega), (by show (7579 + 12 * t28) + 0 ≤ 7223402; omega)⟩ rfl hl.1 rfl (Nat.le_of_ble_eq_true rfl) dL_law_1332 (fun v9 μ351 H locs hp hM hS => ?_)
  obtain ⟨u350, rfl, h⟩ := hp
  refine W.cs (cells' := 653 + 2 * t28) (slots' := 7579 + 12 * t28) (by first | omega | (dsimp only; omega)) (by first | omega | (dsimp only; omega)) ?_
  refine lv_istore (lv' := [(7, .int u350), (6, .int u344), (0, .ref o), (1, va_rf r1), (2, va_rf r2), (3, va_rf r3), (4, va_rf r4), (5, .int x5)]) S.1 S.2.1 dL_law_1335 hl (by decide) rfl (fun ls hl => ?_)
  refine mz_aload_n (x := r2) S.1 S.2.1 dL_law_1337 rfl (lv_at hl 4 rfl) ?_
  refine mz_o0 e348 ?_
  obtain ⟨k352, h⟩ := h
  refine mz_V S hG hM hS cf_10 k352 (As := []) (rest := []) (c_X11_thrown h) yf_X11_thrown tw_1543 tw_1544 tw_1545 ⟨Nat.le_of_ble_eq_true rfl, Nat.le_of_ble_eq_true rfl⟩ ⟨(by show (653 + 2 * t28) + 0 ≤ 603072; omega), (by show (7579 + 12 * t28) + 0 ≤ 7223402; omega)⟩ rfl hl.1 rfl (Nat.le_of_ble_eq_true rfl) dL_law_1338 (fun v9 μ9 H locs hp hM hS => ?_)
  obtain ⟨u353, rfl, e9, h⟩ := hp
  rw [e9] at hM
  refine W.cs (cells' := 653 + 2 * t28) (slots' := 7579 + 12 * t28) (by first | omega | (dsimp only; omega)) (by first | omega | (dsimp only; omega)) ?_
  refine lv_iload S.1 S.2.1 dL_law_1341 (lv_at hl 1 rfl) ?_
  refine lv_icmp_eq (tgt := 1348) S.1 S.2.1 dL_law_1343 (by decide) (fun c354 => ?_) (fun c354 => ?_)
  · have h := h.1 c354
    refine lv_iload S.1 S.2.1 dL_law_1348 (lv_at hl 1 rfl) ?_
    refine lv_if_ne (tgt := 1365) S.1 S.2.1 dL_law_1350 (by decide) (fun c355 => ?_) (fun c355 => ?_)
    · have h := h.1 c355
      refine W.widen (k := 654 + 2 * t28) (n := 7585 + 12 * t28) (by omega) (by omega) ?_
      exact cB_L_law_1365 hl0 S hG hX hbl hbA hgh hend K28 kK28 r1 r2 r3 r4 x5 t28 μ351 H locs ls hM hS (lv_sub hl [2, 3, 4, 5, 6, 7] rfl) h
    · have h := h.2 c355
      refine mz_aload_n (x := r3) S.1 S.2.1 dL_law_1353 rfl (lv_at hl 5 rfl) ?_
      refine lv_iconst (v := (nI 0)) S.1 S.2.1 dL_law_1354 (by decide) ?_
      obtain ⟨a356, e357, h⟩ := h
      refine mz_o1 e357 ?_
      obtain ⟨k358, h⟩ := h
      obtain ⟨b359, h⟩ := h
      refine mz_lald S hG hM dL_law_1355 k358 b359 ?_
      refine lv_iload S.1 S.2.1 dL_law_1356 (lv_at hl 0 rfl) ?_
      refine lv_i2l S.1 S.2.1 dL_law_1358 rfl ?_
      refine W.lcmp S.1 S.2.1 dL_law_1359 ?_
      refine lv_if_eq (tgt := 1365) S.1 S.2.1 dL_law_1360 (by decide) (fun c360 => ?_) (fun c360 => ?_)
      · have h := h.1 c360
        refine W.widen (k := 654 + 2 * t28) (n := 7585 + 12 * t28) (by omega) (by omega) ?_
        exact cB_L_law_1365 hl0 S hG hX hbl hbA hgh hend K28 kK28 r1 r2 r3 r4 x5 t28 μ351 H locs ls hM hS (lv_sub hl [2, 3, 4, 5, 6, 7] rfl) h
      · have h := h.2 c360
        refine lv_iconst (v := (nI 0)) S.1 S.2.1 dL_law_1363 (by decide) ?_
        exact h.elim
  · have h := h.2 c354
    refine lv_iconst (v := (nI 0)) S.1 S.2.1 dL_law_1346 (by decide) ?_
    exact h.elim
set_option maxRecDepth 100000 in
set_option maxHeartbeats 4000000 in
theorem cB_L_law_1368 {p : Program} {l : Launch} {e : Env} {s : State} {m : MethodId} {args : Array Value} {below : List Frame} {meth : Method} {c : Code} {Z : State → Prop} {G : mgT} {o L : Nat} {xs : Nat → Int32} (hl0 : l.stackTraces = false) (S : CallFix p m c cL_law 9 s args TT RL) (hG : GK G s s.heap) (hX : va_X o L xs s s.heap) (hbl : o < s.heap.size) (hbA : ¬ Ah G o) (hgh : gh G = s.heap.size) (hend : ∀ (pc : Nat) (H : Heap) (ls : Array Slot), decode cL_law pc = .ok (.ireturn, 1) → W p l e room_1 s m args below meth c H [] 603072 7223402 Z (F0 m pc ls [.int 1])) : ∀ (K28 : Option Nat → Option Nat → Option Nat → Option Nat → Int32 → Nat → mmT → Prop) (kK28 : ∀ (r1 : Option Nat) (r2 : Option Nat) (r3 : Option Nat) (r4 : Option Nat) (x5 : Int32) (t28 : Nat) (μ : mmT) (H : Heap) (locs : List Loc) (ls : Array Slot), Mm G μ H → va_S (Ah G) s.heap H locs → lv_has ls 9 [(0, .ref o), (1, va_rf r1), (2, va_rf r2), (3, va_rf r3), (4, va_rf r4), (5, .int x5)] → K28 r1 r2 r3 r4 x5 t28 μ → W p l e room_1 s m args below meth c H locs (652 + 2 * t28) (7573 + 12 * t28) Z (F0 m 28 ls [])) (r1 : Option Nat) (r2 : Option Nat) (r3 : Option Nat) (r4 : Option Nat) (x5 : Int32) (t28 : Nat) (μ : mmT) (H : Heap) (locs : List Loc) (ls : Array Slot), Mm G μ H → va_S (Ah G) s.heap H locs → lv_has ls 9 [(0, .ref o), (1, va_rf r1), (2, va_rf r2), (3, va_rf r3), (4, va_rf r4), (5, .int x5)] → w_L_law_b1368 G o L xs K28 r1 r2 r3 r4 x5 t28 μ → W p l e room_1 s m args below meth c H locs (652 + 2 * t28) (7573 + 12 * t28) Z (F0 m 1368 ls []) := by
  intro K28 kK28 r1 r2 r3 r4 x5 t28 μ H locs ls hM hS hl h
  unfold w_L_law_b1368 at h
  obtain ⟨ht28, h⟩ := h
  refine mz_aload_n (x := r1) S.1 S.2.1 dL_law_1368 rfl (lv_at hl 1 rfl) ?_
  obtain ⟨a361, e362, h⟩ := h
  refine mz_o0 e362 ?_
  obtain ⟨k363, h⟩ := h
  refine mz_V S hG hM hS cf_9 k363 (As := []) (rest := []) (c_X10_messageCount h) yf_X10_messageCount tw_386 tw_387 tw_388 ⟨Nat.le_of_ble_eq_true rfl, Nat.le_of_ble_eq_true rfl⟩ ⟨(by show (652 + 2 * t28) + 0 ≤ 603072; omega), (by show (7573 + 12 * t28) + 0 ≤ 7223402; omega)⟩ rfl hl.1 rfl (Nat.le_of_ble_eq_true rfl) dL_law_1369 (fun v9 μ9 H locs hp hM hS => ?_)
  obtain ⟨u364, rfl, e9, h⟩ := hp
  rw [e9] at hM
  refine W.cs (cells' := 652 + 2 * t28) (slots' := 7573 + 12 * t28) (by first | omega | (dsimp only; omega)) (by first | omega | (dsimp only; omega)) ?_
  refine mz_aload_n (x := r2) S.1 S.2.1 dL_law_1372 rfl (lv_at hl 2 rfl) ?_
  obtain ⟨a365, e366, h⟩ := h
  refine mz_o0 e366 ?_
  obtain ⟨k367, h⟩ := h
  refine mz_V S hG hM hS cf_10 k367 (As := []) (rest := [.int u364]) (c_X11_messageCount h) yf_X11_messageCount tw_1746 tw_1747 tw_1748 ⟨Nat.le_of_ble_eq_true rfl, Nat.le_of_ble_eq_true rfl⟩ ⟨(by show (652 + 2 * t28) + 0 ≤ 603072; omega), (by show (7573 + 12 * t28) + 0 ≤ 7223402; omega)⟩ rfl hl.1 rfl (Nat.le_of_ble_eq_true rfl) dL_law_1373 (fun v9 μ369 H locs hp hM hS => ?_)
  obtain ⟨u368, rfl, h⟩ := hp
  refine W.cs (cells' := 652 + 2 * t28) (slots' := 7573 + 12 * t28) (by first | omega | (dsimp only; omega)) (by first | omega | (dsimp only; omega)) ?_
  refine lv_icmp_eq (tgt := 2766) S.1 S.2.1 dL_law_1376 (by decide) (fun c370 => ?_) (fun c370 => ?_)
  · have h := h.1 c370
    refine W.widen (k := 654 + 2 * t28) (n := 7585 + 12 * t28) (by omega) (by omega) ?_
    exact cB_L_law_2766 hl0 S hG hX hbl hbA hgh hend K28 kK28 r1 r2 r3 r4 x5 t28 μ369 H locs ls hM hS (lv_sub hl [0, 1, 2, 3, 4, 5] rfl) h
  · have h := h.2 c370
    refine lv_iconst (v := (nI 0)) S.1 S.2.1 dL_law_1379 (by decide) ?_
    exact h.elim
set_option maxRecDepth 100000 in
set_option maxHeartbeats 4000000 in
theorem cB_L_law_1434 {p : Program} {l : Launch} {e : Env} {s : State} {m : MethodId} {args : Array Value} {below : List Frame} {meth : Method} {c : Code} {Z : State → Prop} {G : mgT} {o L : Nat} {xs : Nat → Int32} (hl0 : l.stackTraces = false) (S : CallFix p m c cL_law 9 s args TT RL) (hG : GK G s s.heap) (hX : va_X o L xs s s.heap) (hbl : o < s.heap.size) (hbA : ¬ Ah G o) (hgh : gh G = s.heap.size) (hend : ∀ (pc : Nat) (H : Heap) (ls : Array Slot), decode cL_law pc = .ok (.ireturn, 1) → W p l e room_1 s m args below meth c H [] 603072 7223402 Z (F0 m pc ls [.int 1])) : ∀ (K28 : Option Nat → Option Nat → Option Nat → Option Nat → Int32 → Nat → mmT → Prop) (kK28 : ∀ (r1 : Option Nat) (r2 : Option Nat) (r3 : Option Nat) (r4 : Option Nat) (x5 : Int32) (t28 : Nat) (μ : mmT) (H : Heap) (locs : List Loc) (ls : Array Slot), Mm G μ H → va_S (Ah G) s.heap H locs → lv_has ls 9 [(0, .ref o), (1, va_rf r1), (2, va_rf r2), (3, va_rf r3), (4, va_rf r4), (5, .int x5)] → K28 r1 r2 r3 r4 x5 t28 μ → W p l e room_1 s m args below meth c H locs (652 + 2 * t28) (7573 + 12 * t28) Z (F0 m 28 ls [])) (r1 : Option Nat) (r2 : Option Nat) (r3 : Option Nat) (r4 : Option Nat) (x5 : Int32) (t28 : Nat) (μ : mmT) (H : Heap) (locs : List Loc) (ls : Array Slot), Mm G μ H → va_S (Ah G) s.heap H locs → lv_has ls 9 [(0, .ref o), (1, va_rf r1), (2, va_rf r2), (3, va_rf r3), (4, va_rf r4), (5, .int x5)] → w_L_law_b1434 G o L xs K28 r1 r2 r3 r4 x5 t28 μ → W p l e room_1 s m args below meth c H locs (654 + 2 * t28) (7585 + 12 * t28) Z (F0 m 1434 ls []) := by
  intro K28 kK28 r1 r2 r3 r4 x5 t28 μ H locs ls hM hS hl h
  unfold w_L_law_b1434 at h
  obtain ⟨ht28, h⟩ := h
  refine lv_goto (tgt := 2766) S.1 S.2.1 dL_law_1434 (by decide) ?_
  refine W.widen (k := 654 + 2 * t28) (n := 7585 + 12 * t28) (by omega) (by omega) ?_
  exact cB_L_law_2766 hl0 S hG hX hbl hbA hgh hend K28 kK28 r1 r2 r3 r4 x5 t28 μ H locs ls hM hS (lv_sub hl [0, 1, 2, 3, 4, 5] rfl) h
set_option maxRecDepth 100000 in
set_option maxHeartbeats 4000000 in
theorem cB_L_law_1381 {p : Program} {l : Launch} {e : Env} {s : State} {m : MethodId} {args : Array Value} {below : List Frame} {meth : Method} {c : Code} {Z : State → Prop} {G : mgT} {o L : Nat} {xs : Nat → Int32} (hl0 : l.stackTraces = false) (S : CallFix p m c cL_law 9 s args TT RL) (hG : GK G s s.heap) (hX : va_X o L xs s s.heap) (hbl : o < s.heap.size) (hbA : ¬ Ah G o) (hgh : gh G = s.heap.size) (hend : ∀ (pc : Nat) (H : Heap) (ls : Array Slot), decode cL_law pc = .ok (.ireturn, 1) → W p l e room_1 s m args below meth c H [] 603072 7223402 Z (F0 m pc ls [.int 1])) : ∀ (K28 : Option Nat → Option Nat → Option Nat → Option Nat → Int32 → Nat → mmT → Prop) (kK28 : ∀ (r1 : Option Nat) (r2 : Option Nat) (r3 : Option Nat) (r4 : Option Nat) (x5 : Int32) (t28 : Nat) (μ : mmT) (H : Heap) (locs : List Loc) (ls : Array Slot), Mm G μ H → va_S (Ah G) s.heap H locs → lv_has ls 9 [(0, .ref o), (1, va_rf r1), (2, va_rf r2), (3, va_rf r3), (4, va_rf r4), (5, .int x5)] → K28 r1 r2 r3 r4 x5 t28 μ → W p l e room_1 s m args below meth c H locs (652 + 2 * t28) (7573 + 12 * t28) Z (F0 m 28 ls [])) (r1 : Option Nat) (r2 : Option Nat) (r3 : Option Nat) (r4 : Option Nat) (x5 : Int32) (t28 : Nat) (μ : mmT) (H : Heap) (locs : List Loc) (ls : Array Slot), Mm G μ H → va_S (Ah G) s.heap H locs → lv_has ls 9 [(0, .ref o), (1, va_rf r1), (2, va_rf r2), (3, va_rf r3), (4, va_rf r4), (5, .int x5)] → w_L_law_b1381 G o L xs K28 r1 r2 r3 r4 x5 t28 μ → W p l e room_1 s m args below meth c H locs (652 + 2 * t28) (7573 + 12 * t28) Z (F0 m 1381 ls []) := by
  intro K28 kK28 r1 r2 r3 r4 x5 t28 μ H locs ls hM hS hl h
  unfold w_L_law_b1381 at h
  obtain ⟨ht28, h⟩ := h
  refine mz_aload_n (x := r1) S.1 S.2.1 dL_law_1381 rfl (lv_at hl 1 rfl) ?_
  refine lv_aload_n S.1 S.2.1 dL_law_1382 rfl (lv_at hl 0 rfl) ?_
  refine lv_iload S.1 S.2.1 dL_law_1383 (lv_at hl 5 rfl) ?_
  refine lv_iconst (v := (nI 1)) S.1 S.2.1 dL_law_1385 (by decide) ?_
  refine lv_iadd S.1 S.2.1 dL_law_1386 ?_
  obtain ⟨b371, h⟩ := h
  refine va_sld S.1 S.2.1 hX hbl hbA hS b371 dL_law_1387 ?_
  refine mz_aload_n (x := r3) S.1 S.2.1 dL_law_1388 rfl (lv_at hl 3 rfl) ?_
  refine mz_SH S hG hM hS (As := [va_rf r1, .int (xs (x5 + (nI 1)).toNatClampNeg), va_rf r3]) (rest := []) (c_L_messageAt hl0 h) yh_L_messageAt tw_1175 tw_1176 ⟨Nat.le_of_ble_eq_true rfl, Nat.le_of_ble_eq_true rfl⟩ ⟨(by show (652 + 2 * t28) + 1 ≤ 603072; omega), (by show (7573 + 12 * t28) + 6 ≤ 7223402; omega)⟩ rfl hl.1 rfl (Nat.le_of_ble_eq_true rfl) dL_law_1389 (fun v9 μ373 H locs hp hM hS => ?_)
  obtain ⟨u372, rfl, h⟩ := hp
  refine W.cs (cells' := 653 + 2 * t28) (slots' := 7579 + 12 * t28) (by first | omega | (dsimp only; omega)) (by first | omega | (dsimp only; omega)) ?_
  refine lv_istore (lv' := [(6, .int u372), (0, .ref o), (1, va_rf r1), (2, va_rf r2), (3, va_rf r3), (4, va_rf r4), (5, .int x5)]) S.1 S.2.1 dL_law_1392 hl (by decide) rfl (fun ls hl => ?_)
  refine mz_aload_n (x := r2) S.1 S.2.1 dL_law_1394 rfl (lv_at hl 3 rfl) ?_
  refine lv_aload_n S.1 S.2.1 dL_law_1395 rfl (lv_at hl 1 rfl) ?_
  refine lv_iload S.1 S.2.1 dL_law_1396 (lv_at hl 6 rfl) ?_
  refine lv_iconst (v := (nI 1)) S.1 S.2.1 dL_law_1398 (by decide) ?_
  refine lv_iadd S.1 S.2.1 dL_law_1399 ?_
  obtain ⟨b374, h⟩ := h
  refine va_sld S.1 S.2.1 hX hbl hbA hS b374 dL_law_1400 ?_
  obtain ⟨a375, e376, h⟩ := h
  refine mz_o1 e376 ?_
  obtain ⟨k377, h⟩ := h
  refine mz_V S hG hM hS cf_10 k377 (As := [.int (xs (x5 + (nI 1)).toNatClampNeg)]) (rest := []) (c_X11_messageAt h) yf_X11_messageAt tw_1750 tw_1751 tw_1752 ⟨Nat.le_of_ble_eq_true rfl, Nat.le_of_ble_eq_true rfl⟩ ⟨(by show (653 + 2 * t28) + 0 ≤ 603072; omega), (by show (7579 + 12 * t28) + 0 ≤ 7223402; omega)⟩ rfl hl.1 rfl (Nat.le_of_ble_eq_true rfl) dL_law_1401 (fun v9 μ379 H locs hp hM hS => ?_)
  obtain ⟨u378, rfl, h⟩ := hp
  refine W.cs (cells' := 653 + 2 * t28) (slots' := 7579 + 12 * t28) (by first | omega | (dsimp only; omega)) (by first | omega | (dsimp only; omega)) ?_
  refine lv_istore (lv' := [(7, .int u378), (6, .int u372), (0, .ref o), (1, va_rf r1), (2, va_rf r2), (3, va_rf r3), (4, va_rf r4), (5, .int x5)]) S.1 S.2.1 dL_law_1404 hl (by decide) rfl (fun ls hl => ?_)
  refine mz_aload_n (x := r2) S.1 S.2.1 dL_law_1406 rfl (lv_at hl 4 rfl) ?_
  refine mz_o0 e376 ?_
  obtain ⟨k380, h⟩ := h
  refine mz_V S hG hM hS cf_10 k380 (As := []) (rest := []) (c_X11_thrown h) yf_X11_thrown tw_1543 tw_1544 tw_1545 ⟨Nat.le_of_ble_eq_true rfl, Nat.le_of_ble_eq_true rfl⟩ ⟨(by show (653 + 2 * t28) + 0 ≤ 603072; omega), (by show (7579 + 12 * t28) + 0 ≤ 7223402; omega)⟩ rfl hl.1 rfl (Nat.le_of_ble_eq_true rfl) dL_law_1407 (fun v9 μ9 H locs hp hM hS => ?_)
  obtain ⟨u381, rfl, e9, h⟩ := hp
  rw [e9] at hM
  refine W.cs (cells' := 653 + 2 * t28) (slots' := 7579 + 12 * t28) (by first | omega | (dsimp only; omega)) (by first | omega | (dsimp only; omega)) ?_
  refine lv_iload S.1 S.2.1 dL_law_1410 (lv_at hl 1 rfl) ?_
  refine lv_icmp_eq (tgt := 1417) S.1 S.2.1 dL_law_1412 (by decide) (fun c382 => ?_) (fun c382 => ?_)
  · have h := h.1 c382
    refine lv_iload S.1 S.2.1 dL_law_1417 (lv_at hl 1 rfl) ?_
    refine lv_if_ne (tgt := 1434) S.1 S.2.1 dL_law_1419 (by decide) (fun c383 => ?_) (fun c383 => ?_)
    · have h := h.1 c383
      refine W.widen (k := 654 + 2 * t28) (n := 7585 + 12 * t28) (by omega) (by omega) ?_
      exact cB_L_law_1434 hl0 S hG hX hbl hbA hgh hend K28 kK28 r1 r2 r3 r4 x5 t28 μ379 H locs ls hM hS (lv_sub hl [2, 3, 4, 5, 6, 7] rfl) h
    · have h := h.2 c383
      refine mz_aload_n (x := r3) S.1 S.2.1 dL_law_1422 rfl (lv_at hl 5 rfl) ?_
      refine lv_iconst (v := (nI 0)) S.1 S.2.1 dL_law_1423 (by decide) ?_
      obtain ⟨a384, e385, h⟩ := h
      refine mz_o1 e385 ?_
      obtain ⟨k386, h⟩ := h
      obtain ⟨b387, h⟩ := h
      refine mz_lald S hG hM dL_law_1424 k386 b387 ?_
      refine lv_iload S.1 S.2.1 dL_law_1425 (lv_at hl 0 rfl) ?_
      refine lv_i2l S.1 S.2.1 dL_law_1427 rfl ?_
      refine W.lcmp S.1 S.2.1 dL_law_1428 ?_
      refine lv_if_eq (tgt := 1434) S.1 S.2.1 dL_law_1429 (by decide) (fun c388 => ?_) (fun c388 => ?_)
      · have h := h.1 c388
        refine W.widen (k := 654 + 2 * t28) (n := 7585 + 12 * t28) (by omega) (by omega) ?_
        exact cB_L_law_1434 hl0 S hG hX hbl hbA hgh hend K28 kK28 r1 r2 r3 r4 x5 t28 μ379 H locs ls hM hS (lv_sub hl [2, 3, 4, 5, 6, 7] rfl) h
      · have h := h.2 c388
        refine lv_iconst (v := (nI 0)) S.1 S.2.1 dL_law_1432 (by decide) ?_
        exact h.elim
  · have h := h.2 c382
    refine lv_iconst (v := (nI 0)) S.1 S.2.1 dL_law_1415 (by decide) ?_
    exact h.elim
set_option maxRecDepth 100000 in
set_option maxHeartbeats 4000000 in
theorem cB_L_law_1490 {p : Program} {l : Launch} {e : Env} {s : State} {m : MethodId} {args : Array Value} {below : List Frame} {meth : Method} {c : Code} {Z : State → Prop} {G : mgT} {o L : Nat} {xs : Nat → Int32} (hl0 : l.stackTraces = false) (S : CallFix p m c cL_law 9 s args TT RL) (hG : GK G s s.heap) (hX : va_X o L xs s s.heap) (hbl : o < s.heap.size) (hbA : ¬ Ah G o) (hgh : gh G = s.heap.size) (hend : ∀ (pc : Nat) (H : Heap) (ls : Array Slot), decode cL_law pc = .ok (.ireturn, 1) → W p l e room_1 s m args below meth c H [] 603072 7223402 Z (F0 m pc ls [.int 1])) : ∀ (K28 : Option Nat → Option Nat → Option Nat → Option Nat → Int32 → Nat → mmT → Prop) (kK28 : ∀ (r1 : Option Nat) (r2 : Option Nat) (r3 : Option Nat) (r4 : Option Nat) (x5 : Int32) (t28 : Nat) (μ : mmT) (H : Heap) (locs : List Loc) (ls : Array Slot), Mm G μ H → va_S (Ah G) s.heap H locs → lv_has ls 9 [(0, .ref o), (1, va_rf r1), (2, va_rf r2), (3, va_rf r3), (4, va_rf r4), (5, .int x5)] → K28 r1 r2 r3 r4 x5 t28 μ → W p l e room_1 s m args below meth c H locs (652 + 2 * t28) (7573 + 12 * t28) Z (F0 m 28 ls [])) (r1 : Option Nat) (r2 : Option Nat) (r3 : Option Nat) (r4 : Option Nat) (x5 : Int32) (t28 : Nat) (μ : mmT) (H : Heap) (locs : List Loc) (ls : Array Slot), Mm G μ H → va_S (Ah G) s.heap H locs → lv_has ls 9 [(0, .ref o), (1, va_rf r1), (2, va_rf r2), (3, va_rf r3), (4, va_rf r4), (5, .int x5)] → w_L_law_b1490 G o L xs K28 r1 r2 r3 r4 x5 t28 μ → W p l e room_1 s m args below meth c H locs (654 + 2 * t28) (7585 + 12 * t28) Z (F0 m 1490 ls []) := by
  intro K28 kK28 r1 r2 r3 r4 x5 t28 μ H locs ls hM hS hl h
  unfold w_L_law_b1490 at h
  obtain ⟨ht28, h⟩ := h
  refine lv_goto (tgt := 2766) S.1 S.2.1 dL_law_1490 (by decide) ?_
  refine W.widen (k := 654 + 2 * t28) (n := 7585 + 12 * t28) (by omega) (by omega) ?_
  exact cB_L_law_2766 hl0 S hG hX hbl hbA hgh hend K28 kK28 r1 r2 r3 r4 x5 t28 μ H locs ls hM hS (lv_sub hl [0, 1, 2, 3, 4, 5] rfl) h
set_option maxRecDepth 100000 in
set_option maxHeartbeats 4000000 in
theorem cB_L_law_1437 {p : Program} {l : Launch} {e : Env} {s : State} {m : MethodId} {args : Array Value} {below : List Frame} {meth : Method} {c : Code} {Z : State → Prop} {G : mgT} {o L : Nat} {xs : Nat → Int32} (hl0 : l.stackTraces = false) (S : CallFix p m c cL_law 9 s args TT RL) (hG : GK G s s.heap) (hX : va_X o L xs s s.heap) (hbl : o < s.heap.size) (hbA : ¬ Ah G o) (hgh : gh G = s.heap.size) (hend : ∀ (pc : Nat) (H : Heap) (ls : Array Slot), decode cL_law pc = .ok (.ireturn, 1) → W p l e room_1 s m args below meth c H [] 603072 7223402 Z (F0 m pc ls [.int 1])) : ∀ (K28 : Option Nat → Option Nat → Option Nat → Option Nat → Int32 → Nat → mmT → Prop) (kK28 : ∀ (r1 : Option Nat) (r2 : Option Nat) (r3 : Option Nat) (r4 : Option Nat) (x5 : Int32) (t28 : Nat) (μ : mmT) (H : Heap) (locs : List Loc) (ls : Array Slot), Mm G μ H → va_S (Ah G) s.heap H locs → lv_has ls 9 [(0, .ref o), (1, va_rf r1), (2, va_rf r2), (3, va_rf r3), (4, va_rf r4), (5, .int x5)] → K28 r1 r2 r3 r4 x5 t28 μ → W p l e room_1 s m args below meth c H locs (652 + 2 * t28) (7573 + 12 * t28) Z (F0 m 28 ls [])) (r1 : Option Nat) (r2 : Option Nat) (r3 : Option Nat) (r4 : Option Nat) (x5 : Int32) (t28 : Nat) (μ : mmT) (H : Heap) (locs : List Loc) (ls : Array Slot), Mm G μ H → va_S (Ah G) s.heap H locs → lv_has ls 9 [(0, .ref o), (1, va_rf r1), (2, va_rf r2), (3, va_rf r3), (4, va_rf r4), (5, .int x5)] → w_L_law_b1437 G o L xs K28 r1 r2 r3 r4 x5 t28 μ → W p l e room_1 s m args below meth c H locs (652 + 2 * t28) (7573 + 12 * t28) Z (F0 m 1437 ls []) := by
  intro K28 kK28 r1 r2 r3 r4 x5 t28 μ H locs ls hM hS hl h
  unfold w_L_law_b1437 at h
  obtain ⟨ht28, h⟩ := h
  refine mz_aload_n (x := r1) S.1 S.2.1 dL_law_1437 rfl (lv_at hl 1 rfl) ?_
  refine lv_aload_n S.1 S.2.1 dL_law_1438 rfl (lv_at hl 0 rfl) ?_
  refine lv_iload S.1 S.2.1 dL_law_1439 (lv_at hl 5 rfl) ?_
  refine lv_iconst (v := (nI 1)) S.1 S.2.1 dL_law_1441 (by decide) ?_
  refine lv_iadd S.1 S.2.1 dL_law_1442 ?_
  obtain ⟨b389, h⟩ := h
  refine va_sld S.1 S.2.1 hX hbl hbA hS b389 dL_law_1443 ?_
  refine mz_aload_n (x := r3) S.1 S.2.1 dL_law_1444 rfl (lv_at hl 3 rfl) ?_
  refine mz_SH S hG hM hS (As := [va_rf r1, .int (xs (x5 + (nI 1)).toNatClampNeg), va_rf r3]) (rest := []) (c_L_nestOf hl0 h) yh_L_nestOf tw_1182 tw_1183 ⟨Nat.le_of_ble_eq_true rfl, Nat.le_of_ble_eq_true rfl⟩ ⟨(by show (652 + 2 * t28) + 1 ≤ 603072; omega), (by show (7573 + 12 * t28) + 6 ≤ 7223402; omega)⟩ rfl hl.1 rfl (Nat.le_of_ble_eq_true rfl) dL_law_1445 (fun v9 μ391 H locs hp hM hS => ?_)
  obtain ⟨u390, rfl, h⟩ := hp
  refine W.cs (cells' := 653 + 2 * t28) (slots' := 7579 + 12 * t28) (by first | omega | (dsimp only; omega)) (by first | omega | (dsimp only; omega)) ?_
  refine lv_istore (lv' := [(6, .int u390), (0, .ref o), (1, va_rf r1), (2, va_rf r2), (3, va_rf r3), (4, va_rf r4), (5, .int x5)]) S.1 S.2.1 dL_law_1448 hl (by decide) rfl (fun ls hl => ?_)
  refine mz_aload_n (x := r2) S.1 S.2.1 dL_law_1450 rfl (lv_at hl 3 rfl) ?_
  refine lv_aload_n S.1 S.2.1 dL_law_1451 rfl (lv_at hl 1 rfl) ?_
  refine lv_iload S.1 S.2.1 dL_law_1452 (lv_at hl 6 rfl) ?_
  refine lv_iconst (v := (nI 1)) S.1 S.2.1 dL_law_1454 (by decide) ?_
  refine lv_iadd S.1 S.2.1 dL_law_1455 ?_
  obtain ⟨b392, h⟩ := h
  refine va_sld S.1 S.2.1 hX hbl hbA hS b392 dL_law_1456 ?_
  obtain ⟨a393, e394, h⟩ := h
  refine mz_o1 e394 ?_
  obtain ⟨k395, h⟩ := h
  refine mz_V S hG hM hS cf_10 k395 (As := [.int (xs (x5 + (nI 1)).toNatClampNeg)]) (rest := []) (c_X11_nestOf h) yf_X11_nestOf tw_1754 tw_1755 tw_1756 ⟨Nat.le_of_ble_eq_true rfl, Nat.le_of_ble_eq_true rfl⟩ ⟨(by show (653 + 2 * t28) + 0 ≤ 603072; omega), (by show (7579 + 12 * t28) + 0 ≤ 7223402; omega)⟩ rfl hl.1 rfl (Nat.le_of_ble_eq_true rfl) dL_law_1457 (fun v9 μ397 H locs hp hM hS => ?_)
  obtain ⟨u396, rfl, h⟩ := hp
  refine W.cs (cells' := 653 + 2 * t28) (slots' := 7579 + 12 * t28) (by first | omega | (dsimp only; omega)) (by first | omega | (dsimp only; omega)) ?_
  refine lv_istore (lv' := [(7, .int u396), (6, .int u390), (0, .ref o), (1, va_rf r1), (2, va_rf r2), (3, va_rf r3), (4, va_rf r4), (5, .int x5)]) S.1 S.2.1 dL_law_1460 hl (by decide) rfl (fun ls hl => ?_)
  refine mz_aload_n (x := r2) S.1 S.2.1 dL_law_1462 rfl (lv_at hl 4 rfl) ?_
  refine mz_o0 e394 ?_
  obtain ⟨k398, h⟩ := h
  refine mz_V S hG hM hS cf_10 k398 (As := []) (rest := []) (c_X11_thrown h) yf_X11_thrown tw_1543 tw_1544 tw_1545 ⟨Nat.le_of_ble_eq_true rfl, Nat.le_of_ble_eq_true rfl⟩ ⟨(by show (653 + 2 * t28) + 0 ≤ 603072; omega), (by show (7579 + 12 * t28) + 0 ≤ 7223402; omega)⟩ rfl hl.1 rfl (Nat.le_of_ble_eq_true rfl) dL_law_1463 (fun v9 μ9 H locs hp hM hS => ?_)
  obtain ⟨u399, rfl, e9, h⟩ := hp
  rw [e9] at hM
  refine W.cs (cells' := 653 + 2 * t28) (slots' := 7579 + 12 * t28) (by first | omega | (dsimp only; omega)) (by first | omega | (dsimp only; omega)) ?_
  refine lv_iload S.1 S.2.1 dL_law_1466 (lv_at hl 1 rfl) ?_
  refine lv_icmp_eq (tgt := 1473) S.1 S.2.1 dL_law_1468 (by decide) (fun c400 => ?_) (fun c400 => ?_)
  · have h := h.1 c400
    refine lv_iload S.1 S.2.1 dL_law_1473 (lv_at hl 1 rfl) ?_
    refine lv_if_ne (tgt := 1490) S.1 S.2.1 dL_law_1475 (by decide) (fun c401 => ?_) (fun c401 => ?_)
    · have h := h.1 c401
      refine W.widen (k := 654 + 2 * t28) (n := 7585 + 12 * t28) (by omega) (by omega) ?_
      exact cB_L_law_1490 hl0 S hG hX hbl hbA hgh hend K28 kK28 r1 r2 r3 r4 x5 t28 μ397 H locs ls hM hS (lv_sub hl [2, 3, 4, 5, 6, 7] rfl) h
    · have h := h.2 c401
      refine mz_aload_n (x := r3) S.1 S.2.1 dL_law_1478 rfl (lv_at hl 5 rfl) ?_
      refine lv_iconst (v := (nI 0)) S.1 S.2.1 dL_law_1479 (by decide) ?_
      obtain ⟨a402, e403, h⟩ := h
      refine mz_o1 e403 ?_
      obtain ⟨k404, h⟩ := h
      obtain ⟨b405, h⟩ := h
      refine mz_lald S hG hM dL_law_1480 k404 b405 ?_
      refine lv_iload S.1 S.2.1 dL_law_1481 (lv_at hl 0 rfl) ?_
      refine lv_i2l S.1 S.2.1 dL_law_1483 rfl ?_
      refine W.lcmp S.1 S.2.1 dL_law_1484 ?_
      refine lv_if_eq (tgt := 1490) S.1 S.2.1 dL_law_1485 (by decide) (fun c406 => ?_) (fun c406 => ?_)
      · have h := h.1 c406
        refine W.widen (k := 654 + 2 * t28) (n := 7585 + 12 * t28) (by omega) (by omega) ?_
        exact cB_L_law_1490 hl0 S hG hX hbl hbA hgh hend K28 kK28 r1 r2 r3 r4 x5 t28 μ397 H locs ls hM hS (lv_sub hl [2, 3, 4, 5, 6, 7] rfl) h
      · have h := h.2 c406
        refine lv_iconst (v := (nI 0)) S.1 S.2.1 dL_law_1488 (by decide) ?_
        exact h.elim
  · have h := h.2 c400
    refine lv_iconst (v := (nI 0)) S.1 S.2.1 dL_law_1471 (by decide) ?_
    exact h.elim
set_option maxRecDepth 100000 in
set_option maxHeartbeats 4000000 in
theorem cB_L_law_1546 {p : Program} {l : Launch} {e : Env} {s : State} {m : MethodId} {args : Array Value} {below : List Frame} {meth : Method} {c : Code} {Z : State → Prop} {G : mgT} {o L : Nat} {xs : Nat → Int32} (hl0 : l.stackTraces = false) (S : CallFix p m c cL_law 9 s args TT RL) (hG : GK G s s.heap) (hX : va_X o L xs s s.heap) (hbl : o < s.heap.size) (hbA : ¬ Ah G o) (hgh : gh G = s.heap.size) (hend : ∀ (pc : Nat) (H : Heap) (ls : Array Slot), decode cL_law pc = .ok (.ireturn, 1) → W p l e room_1 s m args below meth c H [] 603072 7223402 Z (F0 m pc ls [.int 1])) : ∀ (K28 : Option Nat → Option Nat → Option Nat → Option Nat → Int32 → Nat → mmT → Prop) (kK28 : ∀ (r1 : Option Nat) (r2 : Option Nat) (r3 : Option Nat) (r4 : Option Nat) (x5 : Int32) (t28 : Nat) (μ : mmT) (H : Heap) (locs : List Loc) (ls : Array Slot), Mm G μ H → va_S (Ah G) s.heap H locs → lv_has ls 9 [(0, .ref o), (1, va_rf r1), (2, va_rf r2), (3, va_rf r3), (4, va_rf r4), (5, .int x5)] → K28 r1 r2 r3 r4 x5 t28 μ → W p l e room_1 s m args below meth c H locs (652 + 2 * t28) (7573 + 12 * t28) Z (F0 m 28 ls [])) (r1 : Option Nat) (r2 : Option Nat) (r3 : Option Nat) (r4 : Option Nat) (x5 : Int32) (t28 : Nat) (μ : mmT) (H : Heap) (locs : List Loc) (ls : Array Slot), Mm G μ H → va_S (Ah G) s.heap H locs → lv_has ls 9 [(0, .ref o), (1, va_rf r1), (2, va_rf r2), (3, va_rf r3), (4, va_rf r4), (5, .int x5)] → w_L_law_b1546 G o L xs K28 r1 r2 r3 r4 x5 t28 μ → W p l e room_1 s m args below meth c H locs (654 + 2 * t28) (7585 + 12 * t28) Z (F0 m 1546 ls []) := by
  intro K28 kK28 r1 r2 r3 r4 x5 t28 μ H locs ls hM hS hl h
  unfold w_L_law_b1546 at h
  obtain ⟨ht28, h⟩ := h
  refine lv_goto (tgt := 2766) S.1 S.2.1 dL_law_1546 (by decide) ?_
  refine W.widen (k := 654 + 2 * t28) (n := 7585 + 12 * t28) (by omega) (by omega) ?_
  exact cB_L_law_2766 hl0 S hG hX hbl hbA hgh hend K28 kK28 r1 r2 r3 r4 x5 t28 μ H locs ls hM hS (lv_sub hl [0, 1, 2, 3, 4, 5] rfl) h
set_option maxRecDepth 100000 in
set_option maxHeartbeats 4000000 in
theorem cB_L_law_1493 {p : Program} {l : Launch} {e : Env} {s : State} {m : MethodId} {args : Array Value} {below : List Frame} {meth : Method} {c : Code} {Z : State → Prop} {G : mgT} {o L : Nat} {xs : Nat → Int32} (hl0 : l.stackTraces = false) (S : CallFix p m c cL_law 9 s args TT RL) (hG : GK G s s.heap) (hX : va_X o L xs s s.heap) (hbl : o < s.heap.size) (hbA : ¬ Ah G o) (hgh : gh G = s.heap.size) (hend : ∀ (pc : Nat) (H : Heap) (ls : Array Slot), decode cL_law pc = .ok (.ireturn, 1) → W p l e room_1 s m args below meth c H [] 603072 7223402 Z (F0 m pc ls [.int 1])) : ∀ (K28 : Option Nat → Option Nat → Option Nat → Option Nat → Int32 → Nat → mmT → Prop) (kK28 : ∀ (r1 : Option Nat) (r2 : Option Nat) (r3 : Option Nat) (r4 : Option Nat) (x5 : Int32) (t28 : Nat) (μ : mmT) (H : Heap) (locs : List Loc) (ls : Array Slot), Mm G μ H → va_S (Ah G) s.heap H locs → lv_has ls 9 [(0, .ref o), (1, va_rf r1), (2, va_rf r2), (3, va_rf r3), (4, va_rf r4), (5, .int x5)] → K28 r1 r2 r3 r4 x5 t28 μ → W p l e room_1 s m args below meth c H locs (652 + 2 * t28) (7573 + 12 * t28) Z (F0 m 28 ls [])) (r1 : Option Nat) (r2 : Option Nat) (r3 : Option Nat) (r4 : Option Nat) (x5 : Int32) (t28 : Nat) (μ : mmT) (H : Heap) (locs : List Loc) (ls : Array Slot), Mm G μ H → va_S (Ah G) s.heap H locs → lv_has ls 9 [(0, .ref o), (1, va_rf r1), (2, va_rf r2), (3, va_rf r3), (4, va_rf r4), (5, .int x5)] → w_L_law_b1493 G o L xs K28 r1 r2 r3 r4 x5 t28 μ → W p l e room_1 s m args below meth c H locs (652 + 2 * t28) (7573 + 12 * t28) Z (F0 m 1493 ls []) := by
  intro K28 kK28 r1 r2 r3 r4 x5 t28 μ H locs ls hM hS hl h
  unfold w_L_law_b1493 at h
  obtain ⟨ht28, h⟩ := h
  refine mz_aload_n (x := r1) S.1 S.2.1 dL_law_1493 rfl (lv_at hl 1 rfl) ?_
  refine lv_aload_n S.1 S.2.1 dL_law_1494 rfl (lv_at hl 0 rfl) ?_
  refine lv_iload S.1 S.2.1 dL_law_1495 (lv_at hl 5 rfl) ?_
  refine lv_iconst (v := (nI 1)) S.1 S.2.1 dL_law_1497 (by decide) ?_
  refine lv_iadd S.1 S.2.1 dL_law_1498 ?_
  obtain ⟨b407, h⟩ := h
  refine va_sld S.1 S.2.1 hX hbl hbA hS b407 dL_law_1499 ?_
  refine mz_aload_n (x := r3) S.1 S.2.1 dL_law_1500 rfl (lv_at hl 3 rfl) ?_
  refine mz_SH S hG hM hS (As := [va_rf r1, .int (xs (x5 + (nI 1)).toNatClampNeg), va_rf r3]) (rest := []) (c_L_keyOf hl0 h) yh_L_keyOf tw_1194 tw_1195 ⟨Nat.le_of_ble_eq_true rfl, Nat.le_of_ble_eq_true rfl⟩ ⟨(by show (652 + 2 * t28) + 1 ≤ 603072; omega), (by show (7573 + 12 * t28) + 6 ≤ 7223402; omega)⟩ rfl hl.1 rfl (Nat.le_of_ble_eq_true rfl) dL_law_1501 (fun v9 μ409 H locs hp hM hS => ?_)
  obtain ⟨u408, rfl, h⟩ := hp
  refine W.cs (cells' := 653 + 2 * t28) (slots' := 7579 + 12 * t28) (by first | omega | (dsimp only; omega)) (by first | omega | (dsimp only; omega)) ?_
  refine lv_istore (lv' := [(6, .int u408), (0, .ref o), (1, va_rf r1), (2, va_rf r2), (3, va_rf r3), (4, va_rf r4), (5, .int x5)]) S.1 S.2.1 dL_law_1504 hl (by decide) rfl (fun ls hl => ?_)
  refine mz_aload_n (x := r2) S.1 S.2.1 dL_law_1506 rfl (lv_at hl 3 rfl) ?_
  refine lv_aload_n S.1 S.2.1 dL_law_1507 rfl (lv_at hl 1 rfl) ?_
  refine lv_iload S.1 S.2.1 dL_law_1508 (lv_at hl 6 rfl) ?_
  refine lv_iconst (v := (nI 1)) S.1 S.2.1 dL_law_1510 (by decide) ?_
  refine lv_iadd S.1 S.2.1 dL_law_1511 ?_
  obtain ⟨b410, h⟩ := h
  refine va_sld S.1 S.2.1 hX hbl hbA hS b410 dL_law_1512 ?_
  obtain ⟨a411, e412, h⟩ := h
  refine mz_o1 e412 ?_
  obtain ⟨k413, h⟩ := h
  refine mz_V S hG hM hS cf_10 k413 (As := [.int (xs (x5 + (nI 1)).toNatClampNeg)]) (rest := []) (c_X11_keyOf h) yf_X11_keyOf tw_1762 tw_1763 tw_1764 ⟨Nat.le_of_ble_eq_true rfl, Nat.le_of_ble_eq_true rfl⟩ ⟨(by show (653 + 2 * t28) + 0 ≤ 603072; omega), (by show (7579 + 12 * t28) + 0 ≤ 7223402; omega)⟩ rfl hl.1 rfl (Nat.le_of_ble_eq_true rfl) dL_law_1513 (fun v9 μ415 H locs hp hM hS => ?_)
  obtain ⟨u414, rfl, h⟩ := hp
  refine W.cs (cells' := 653 + 2 * t28) (slots' := 7579 + 12 * t28) (by first | omega | (dsimp only; omega)) (by first | omega | (dsimp only; omega)) ?_
  refine lv_istore (lv' := [(7, .int u414), (6, .int u408), (0, .ref o), (1, va_rf r1), (2, va_rf r2), (3, va_rf r3), (4, va_rf r4), (5, .int x5)]) S.1 S.2.1 dL_law_1516 hl (by decide) rfl (fun ls hl => ?_)
  refine mz_aload_n (x := r2) S.1 S.2.1 dL_law_1518 rfl (lv_at hl 4 rfl) ?_
  refine mz_o0 e412 ?_
  obtain ⟨k416, h⟩ := h
  refine mz_V S hG hM hS cf_10 k416 (As := []) (rest := []) (c_X11_thrown h) yf_X11_thrown tw_1543 tw_1544 tw_1545 ⟨Nat.le_of_ble_eq_true rfl, Nat.le_of_ble_eq_true rfl⟩ ⟨(by show (653 + 2 * t28) + 0 ≤ 603072; omega), (by show (7579 + 12 * t28) + 0 ≤ 7223402; omega)⟩ rfl hl.1 rfl (Nat.le_of_ble_eq_true rfl) dL_law_1519 (fun v9 μ9 H locs hp hM hS => ?_)
  obtain ⟨u417, rfl, e9, h⟩ := hp
  rw [e9] at hM
  refine W.cs (cells' := 653 + 2 * t28) (slots' := 7579 + 12 * t28) (by first | omega | (dsimp only; omega)) (by first | omega | (dsimp only; omega)) ?_
  refine lv_iload S.1 S.2.1 dL_law_1522 (lv_at hl 1 rfl) ?_
  refine lv_icmp_eq (tgt := 1529) S.1 S.2.1 dL_law_1524 (by decide) (fun c418 => ?_) (fun c418 => ?_)
  · have h := h.1 c418
    refine lv_iload S.1 S.2.1 dL_law_1529 (lv_at hl 1 rfl) ?_
    refine lv_if_ne (tgt := 1546) S.1 S.2.1 dL_law_1531 (by decide) (fun c419 => ?_) (fun c419 => ?_)
    · have h := h.1 c419
      refine W.widen (k := 654 + 2 * t28) (n := 7585 + 12 * t28) (by omega) (by omega) ?_
      exact cB_L_law_1546 hl0 S hG hX hbl hbA hgh hend K28 kK28 r1 r2 r3 r4 x5 t28 μ415 H locs ls hM hS (lv_sub hl [2, 3, 4, 5, 6, 7] rfl) h
    · have h := h.2 c419
      refine mz_aload_n (x := r3) S.1 S.2.1 dL_law_1534 rfl (lv_at hl 5 rfl) ?_
      refine lv_iconst (v := (nI 0)) S.1 S.2.1 dL_law_1535 (by decide) ?_
      obtain ⟨a420, e421, h⟩ := h
      refine mz_o1 e421 ?_
      obtain ⟨k422, h⟩ := h
      obtain ⟨b423, h⟩ := h
      refine mz_lald S hG hM dL_law_1536 k422 b423 ?_
      refine lv_iload S.1 S.2.1 dL_law_1537 (lv_at hl 0 rfl) ?_
      refine lv_i2l S.1 S.2.1 dL_law_1539 rfl ?_
      refine W.lcmp S.1 S.2.1 dL_law_1540 ?_
      refine lv_if_eq (tgt := 1546) S.1 S.2.1 dL_law_1541 (by decide) (fun c424 => ?_) (fun c424 => ?_)
      · have h := h.1 c424
        refine W.widen (k := 654 + 2 * t28) (n := 7585 + 12 * t28) (by omega) (by omega) ?_
        exact cB_L_law_1546 hl0 S hG hX hbl hbA hgh hend K28 kK28 r1 r2 r3 r4 x5 t28 μ415 H locs ls hM hS (lv_sub hl [2, 3, 4, 5, 6, 7] rfl) h
      · have h := h.2 c424
        refine lv_iconst (v := (nI 0)) S.1 S.2.1 dL_law_1544 (by decide) ?_
        exact h.elim
  · have h := h.2 c418
    refine lv_iconst (v := (nI 0)) S.1 S.2.1 dL_law_1527 (by decide) ?_
    exact h.elim
